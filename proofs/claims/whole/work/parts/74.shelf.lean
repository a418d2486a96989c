section SHELF
variable {σc σm : Sg}
theorem R.acts {τc τm : Sg} (h : R σc σm) (a : ag tC σc τc) (b : ag tM σm τm) (q : RD τc τm) : R τc τm := by
  obtain ⟨⟨n, ha⟩, h1, h2, h3, h4, h5, -⟩ := h
  refine ⟨⟨n, ?_⟩, ?_, ?_, ?_, ?_, ?_, q⟩
  · exact ha.fr a b (fun j => by simp [tC]) (fun j => by simp [tC]) (fun j => by simp [tC]) (fun o j ho => by simp [tC]; omega) (fun j _ => by simp [tM])
  · exact h1.fr a b (by simp [tC]) (fun j => by simp [tC]) (fun j => by simp [tC]) (fun j => by simp [tC]) (fun o j ho => by simp [tC]; omega) (by simp [tM]) (fun j _ => by simp [tM])
  · exact h2.fr a b (by simp [tC]) (fun j => by simp [tC]) (by simp [tM]) (fun j => by simp [tM])
  · exact h3.fr a b (by simp [tC]) (fun j => by simp [tC]) (by simp [tM]) (fun j => by simp [tM])
  · exact h4.fr a b (fun j => by simp [tC]) (fun j => by simp [tC]) (fun j => by simp [tM]) (fun j => by simp [tM]) (fun j => by simp [tM])
  · exact h5.fr a b (fun j => by simp [tC]) (fun j => by simp [tC]) (fun j => by simp [tC]) (fun j => by simp [tM]) (fun j => by simp [tM]) (fun j => by simp [tM])
def bgD (σ : Sg) (a b : Int32) : Sg := wr_ (wr_ (wr_ (wr_ σ 29 2 a) 29 3 b) 29 1 (nI 0)) 29 4 (nI 0)
theorem cbeginD {σ : Sg} {a b : Int32} : C4_begin_0 σ a b = some ((), bgD σ a b) := by
  simp only [C4_begin_0, lt_eq, lit, bgD]
theorem bgD_ag {σ : Sg} {a b : Int32} : ag tC σ (bgD σ a b) := by
  unfold bgD
  refine ag.wr (ag.wr (ag.wr (ag.wr ag.rf ?_) ?_) ?_) ?_ <;> exact Or.inl rfl
theorem RD.zero {τc τm : Sg} (h1 : rd_ τc 29 1 = nI 0) (h2 : rd_ τm 0 23 = nI 0) : RD τc τm := ⟨0, by omega, h1, h2, fun i hi => absurd hi (by omega)⟩
theorem R.none {τm : Sg} {a b : Int32} (h : R σc σm) (hb : ag tM σm τm) (e : rd_ τm 0 23 = nI 0) : R (bgD σc a b) τm := R.acts h bgD_ag hb (RD.zero (by unfold bgD; rw [rd_j (by omega), rd_same]) e)
theorem m0ag : ag tM σm (wr_ σm 0 23 (nI 0)) := ag.rf.wr (Or.inr ⟨rfl, by omega⟩)
theorem lifeM1 {n : Nat} (ha : RA σc σm n) : C1_life_0 σc m1 = some (none, σc) := lifeN ha (Or.inl m1_neg)
theorem act0 {σ : Sg} {x2 x3 a b : Int32} : C_act_41 σ x2 x3 none b a = some (0, bgD σ a b) := by
  unfold C_act_41
  rw [on_N, cbeginD, bi_some]
theorem nI_cases {x : Int32} {n : Nat} (j : Nat) (hj : j ≤ 7) (hn : n ≤ 8) : j < n ∨ (nI j < 0 ∨ nI n ≤ nI j) := by
  by_cases c : j < n
  · exact Or.inl c
  · exact Or.inr (Or.inr (nI_le (by omega) (by omega)))
theorem eq_act (h : R σc σm) (x1 x2 x3 : Int32) : eqv (C_act_0 σc x1 x2 x3) (M_act_0 σm x1 x2 x3) := by
  obtain ⟨⟨n, ha⟩, ho⟩ := id h
  have hn := ha.1.2.1
  have hh := h.2.2.2.2.2.1
  have m23 : rd_ (wr_ σm 0 23 (nI 0)) 0 23 = nI 0 := rd_same _ _ _ _
  have nope : (∃ v, C2_shelvedChild_0 σc x1 = some (v, σc) ∧ C1_life_0 σc v = some (none, σc)) → M_act_0 σm x1 x2 x3 = some (0, wr_ σm 0 23 (nI 0)) → eqv (C_act_0 σc x1 x2 x3) (M_act_0 σm x1 x2 x3) := by
    rintro ⟨v, e1, e2⟩ e3
    refine ⟨0, bgD σc v 0, wr_ σm 0 23 (nI 0), ?_, e3, R.none h m0ag m23⟩
    unfold C_act_0
    rw [e1, bi_some, e2, bi_some, on_N, act0]
  rcases rng x1 3 (by omega) with ⟨k, hk, rfl⟩ | hv
  · have hk4 : k < 4 := by omega
    have ech : C2_shelvedChild_0 σc (nI k) = some (rd_ σc 27 k, σc) := by
      simp (disch := omega) only [C2_shelvedChild_0, csf1 hk4, bi_some, lit, nI_eq, if_neg, in_nI, gd_tt, nI_clamp]
    have k12 : ∀ q, rd_ (wr_ σm 0 23 (nI 0)) 12 q = rd_ σm 12 q := fun q => rd_k (by omega)
    have k13 : ∀ q, rd_ (wr_ σm 0 23 (nI 0)) 13 q = rd_ σm 13 q := fun q => rd_k (by omega)
    have ha2 : RA σc (wr_ σm 0 23 (nI 0)) n := ha.fr (ag.rf (S := fun _ _ => False)) m0ag (fun j => by simp) (fun j => by simp) (fun j => by simp) (fun o j _ => by simp) (fun j _ => by simp [tM])
    have hx2 : (∃ v, M_heldOn_0 (wr_ σm 0 23 (nI 0)) (nI k) = some (nI v, wr_ σm 0 23 (nI 0)) ∧ v < 2 ^ 31 ∧ ¬ v = 1) → M_act_0 σm (nI k) x2 x3 = some (0, wr_ σm 0 23 (nI 0)) := by
      rintro ⟨v, e, hv1, hv2⟩
      unfold M_act_0
      rw [lt_eq, show wr_ σm 0 23 0 = wr_ σm 0 23 (nI 0) from rfl, msf1 hk4, bp_some, if_neg (by decide)]
      rcases rng x2 3 (by omega) with ⟨a, ha3, rfl⟩ | hv
      · rw [show (0 : Int64) = lN 0 from rfl, show (3 : Int64) = lN 3 from rfl, mi1 (by omega) ha3 (by omega), bp_some, if_neg (by decide), e, bi_some, if_neg (show ¬ nI v = (1 : Int32) from fun q => hv2 ((nI_eq hv1 (b := 1) (by omega)).mp q))]
      · rw [show (0 : Int64) = lN 0 from rfl, show (3 : Int64) = lN 3 from rfl, mi0 (by omega) (by omega) (neg_any hv), bp_some, if_pos (by decide)]
    rcases hh k hk4 with ⟨j, hj, m1a, m1b, c1a, c1b⟩ | ⟨s, z, hs3, hz, m2a, m2b, m2c, c2a, c2b, c2c⟩ | ⟨m3a, c3a, c3b⟩
    · rcases nI_cases (x := 0) j hj hn with hjn | hjn
      · have hheld : M_heldOn_0 (wr_ σm 0 23 (nI 0)) (nI k) = some (nI 1, wr_ σm 0 23 (nI 0)) := by
          unfold M_heldOn_0 M_heldOn_27
          rw [in_nI hk4 (by omega), gd_tt, nI_clamp (by omega), k12, m1a, if_pos (by decide), gd_tt, k13, m1b, oneY ha2 hjn, bi_some, if_neg (by decide), gd_tt, k12, m1a]
        obtain ⟨⟨b1, b2, b3, b4, b5, b6⟩, g0, g1, g2, g3, g4, g5⟩ := lvG ha.1 hjn
        dsimp only at g0 g5
        rw [Nat.add_zero] at g0
        have c0 : rd_ σc (34 + j) 0 = nI (N_ (σm.1 1) (16 + 6 * j)) := (ha.cL hjn 0 (by omega)).trans g0
        have c5 : rd_ σc (34 + j) 5 = σm.1 1 (16 + 6 * j + 5) := ha.cL hjn 5 (by omega)
        have elife : C1_life_0 σc (nI j) = some (some j, σc) := lifeY ha hjn
        have ekind : C1_kindOf_0 (bgD σc (nI j) (σm.1 1 (16 + 6 * j + 5))) j = some (N_ (σm.1 1) (16 + 6 * j), bgD σc (nI j) (σm.1 1 (16 + 6 * j + 5))) := ckind (by omega) b1 (by rw [bgD_ag.1 _ _ (by unfold tC; omega)]; exact c0)
        generalize hkd : N_ (σm.1 1) (16 + 6 * j) = kd at g0 c0 ekind b1
        generalize hav : σm.1 1 (16 + 6 * j + 5) = av at c5 ekind
        have hC0 : C_act_0 σc (nI k) x2 x3 = (if x2 = 0 then (bi_ (ckick kd (bgD σc (nI j) av) x3) fun r σ => C_act_155 σ r) else (if x2 = 1 then (bi_ (cpray kd (bgD σc (nI j) av) x3) fun r σ => C_act_155 σ r) else (if x2 = 2 then (bi_ (cpart kd (bgD σc (nI j) av) x3) fun r σ => C_act_155 σ r) else (if x2 = 3 then (bi_ (cgrow kd (bgD σc (nI j) av) x3) fun r σ => C_act_155 σ r) else (C_act_155 (bgD σc (nI j) av) 0))))) := by
          unfold C_act_0
          rw [ech, c1b, bi_some, elife, bi_some, on_S, lf_tt (by omega), gd_tt, c5]
          unfold C_act_41
          rw [on_S, cbeginD, bi_some, ekind, bi_some]
          rfl
        rcases rng x2 3 (by omega) with ⟨a, ha3, rfl⟩ | hv
        · obtain ⟨τ0, eτ⟩ : ∃ τ0, τ0 = wr_ (wr_ (wr_ (wr_ (wr_ σm 0 23 (nI 0)) 0 27 (nI 0)) 0 24 (nI kd)) 0 25 (nI j)) 0 26 av := ⟨_, rfl⟩
          have hM0 : M_act_0 σm (nI k) (nI a) x3 = (if nI a = 0 then (bi_ (M_kicks_0 τ0 x3) fun r σ => M_act_123 σ r) else (if nI a = (1 : Int32) then (bi_ (M_prays_0 τ0 x3) fun r σ => M_act_123 σ r) else (if nI a = (2 : Int32) then (bi_ (M_parts_0 τ0 x3) fun r σ => M_act_123 σ r) else (bi_ (M_grows_0 τ0 x3) fun r σ => M_act_123 σ r)))) := by
            rw [eτ]
            unfold M_act_0
            rw [lt_eq, show wr_ σm 0 23 0 = wr_ σm 0 23 (nI 0) from rfl, msf1 hk4, bp_some, if_neg (by decide), show (0 : Int64) = lN 0 from rfl, show (3 : Int64) = lN 3 from rfl, mi1 (by omega) ha3 (by omega), bp_some, if_neg (by decide), hheld, bi_some, if_pos (show nI 1 = (1 : Int32) from rfl), lt_eq, show wr_ (wr_ σm 0 23 (nI 0)) 0 27 0 = wr_ (wr_ σm 0 23 (nI 0)) 0 27 (nI 0) from rfl, in_nI hk4 (by omega), gd_tt, nI_clamp (by omega), rd_k (k' := 13) (by omega), k13, m1b, show (M_its_0 (wr_ (wr_ σm 0 23 (nI 0)) 0 27 (nI 0)) (nI j) 0) = M_its_0 (wr_ (wr_ σm 0 23 (nI 0)) 0 27 (nI 0)) (nI j) (nI 0) from rfl, itsY (by omega) (by omega), bi_some, lt_eq, gd_tt, lt_eq, gd_tt]
            rw [rd_k (k' := 1) (by omega), rd_k (k' := 1) (by omega), rd_k (k' := 13) (by omega), rd_k (k' := 13) (by omega), k13, m1b, rd_k (k' := 13) (by omega), rd_k (k' := 13) (by omega), rd_k (k' := 13) (by omega), k13, m1b]
            rw [Nat.add_zero, show rd_ σm 1 (16 + 6 * j) = nI kd from g0, show (5 : Int32) = nI 5 from rfl, itsY (by omega) (by omega), bi_some, lt_eq]
            rw [rd_k (k' := 1) (by omega), rd_k (k' := 1) (by omega), rd_k (k' := 1) (by omega), rd_k (k' := 1) (by omega), show rd_ σm 1 (16 + 6 * j + 5) = av from hav]
          have hAR : AR σc σm kd (nI j) av (nI 0) (bgD σc (nI j) av) τ0 := by
            rw [eτ]
            refine ⟨bgD_ag, ?_, ⟨?_, ?_⟩, ⟨?_, ?_⟩, ?_, ⟨?_, ?_⟩, 0, by omega, ?_, ?_, fun i hi => absurd hi (by omega)⟩
            · refine ag.wr (ag.wr (ag.wr (ag.wr m0ag ?_) ?_) ?_) ?_ <;> exact Or.inr ⟨rfl, by omega⟩
            · unfold bgD; simp (disch := omega) only [rd_j, rd_same]
            · simp (disch := omega) only [rd_j, rd_same]
            · unfold bgD; simp (disch := omega) only [rd_j, rd_same]
            · simp (disch := omega) only [rd_same]
            · simp (disch := omega) only [rd_j, rd_same]
            · unfold bgD; simp (disch := omega) only [rd_same]
            · simp (disch := omega) only [rd_j, rd_same]
            · unfold bgD; simp (disch := omega) only [rd_j, rd_same]
            · simp (disch := omega) only [rd_j, rd_same]
          have fin : ∀ {c m : Option (Int32 × Sg)}, sQ' σc σm kd (nI j) av c m → eqv (bi_ c fun r σ => C_act_155 σ r) (bi_ m fun r σ => M_act_123 σ r) := by
            intro c m hq
            rcases hq with ⟨r, τc, τm, rfl, rfl, hA⟩ | ⟨r, r', τc, τm, rfl, rfl, hA⟩
            · refine ⟨r, τc, τm, ?_, ?_, R.acts h hA.1 hA.2.1 hA.2.2.2.2.2.2⟩
              · rw [bi_some, C_act_155, hA.2.2.2.2.2.1.1, if_pos (by decide)]
              · rw [bi_some, M_act_123, hA.2.2.2.2.2.1.2, if_pos (by decide)]
            · refine ⟨-15, τc, τm, ?_, ?_, R.acts h hA.1 hA.2.1 hA.2.2.2.2.2.2⟩
              · rw [bi_some, C_act_155, hA.2.2.2.2.2.1.1, if_neg (by decide)]
              · rw [bi_some, M_act_123, hA.2.2.2.2.2.1.2, if_neg (by decide)]
          rw [hC0, hM0]
          have : a = 0 ∨ a = 1 ∨ a = 2 ∨ a = 3 := by omega
          rcases this with rfl | rfl | rfl | rfl
          · rw [if_pos (by decide), if_pos (by decide)]
            exact fin (Or.inl (kicks b1 hAR))
          · rw [if_neg (by decide), if_pos (by decide), if_neg (by decide), if_pos (by decide)]
            exact fin (Or.inl (prays b1 hAR))
          · rw [if_neg (by decide), if_neg (by decide), if_pos (by decide), if_neg (by decide), if_neg (by decide), if_pos (by decide)]
            exact fin (parts b1 hAR)
          · rw [if_neg (by decide), if_neg (by decide), if_neg (by decide), if_pos (by decide), if_neg (by decide), if_neg (by decide), if_neg (by decide)]
            exact fin (grows b1 hAR)
        · refine ⟨0, bgD σc (nI j) av, wr_ σm 0 23 (nI 0), ?_, ?_, R.none h m0ag m23⟩
          · have n0 := not_k (k := 0) (by omega) hv (by omega)
            have n1 := not_k (k := 1) (by omega) hv (by omega)
            have n2 := not_k (k := 2) (by omega) hv (by omega)
            have n3 := not_k (k := 3) (by omega) hv (by omega)
            rw [hC0, if_neg (show ¬ x2 = (0 : Int32) from n0), if_neg (show ¬ x2 = (1 : Int32) from n1), if_neg (show ¬ x2 = (2 : Int32) from n2), if_neg (show ¬ x2 = (3 : Int32) from n3)]
            unfold C_act_155
            have : rd_ (bgD σc (nI j) av) 29 4 = nI 0 := by unfold bgD; rw [rd_same]
            rw [this, if_pos (by decide)]
          · unfold M_act_0
            rw [lt_eq, show wr_ σm 0 23 0 = wr_ σm 0 23 (nI 0) from rfl, msf1 hk4, bp_some, if_neg (by decide), show (0 : Int64) = lN 0 from rfl, show (3 : Int64) = lN 3 from rfl, mi0 (by omega) (by omega) (neg_any hv), bp_some, if_pos (by decide)]
      · refine nope ⟨_, by rw [ech, c1b], lifeN ha hjn⟩ (hx2 ⟨0, ?_, by omega, by omega⟩)
        unfold M_heldOn_0
        rw [in_nI hk4 (by omega), gd_tt, nI_clamp (by omega), k12, m1a, if_pos (by decide), gd_tt, k13, m1b, oneN ha2 hjn, bi_some, if_pos (by decide)]
        rfl
    · refine nope ⟨_, by rw [ech, c2c], lifeM1 ha⟩ (hx2 ⟨2, ?_, by omega, by omega⟩)
      unfold M_heldOn_0 M_heldOn_27
      rw [in_nI hk4 (by omega), gd_tt, nI_clamp (by omega), k12, m2a, if_neg (by decide), gd_tt]
    · refine nope ⟨_, by rw [ech, c3b], lifeM1 ha⟩ (hx2 ⟨0, ?_, by omega, by omega⟩)
      unfold M_heldOn_0 M_heldOn_27
      rw [in_nI hk4 (by omega), gd_tt, nI_clamp (by omega), k12, m3a, if_neg (by decide), gd_tt]
  · refine nope ⟨m1, ?_, lifeM1 ha⟩ ?_
    · simp only [C2_shelvedChild_0, csf0 hv, bi_some, lit, if_true]; rfl
    · simp only [M_act_0, lt_eq, msf0 hv, bp_some, lit, if_true]
theorem eq_trace (h : R σc σm) (x1 : Int32) : eqv (C_trace_0 σc x1) (M_trace_0 σm x1) := by
  obtain ⟨k, hk, e1, e2, e3⟩ := h.2.2.2.2.2.2
  rcases idx (z := k) (by omega) x1 with ⟨i, hi, rfl, i1, i2⟩ | ⟨hx, i1, i2⟩
  · refine ⟨rd_ σc 30 i, σc, σm, ?_, ?_, h⟩
    · simp (disch := omega) only [C_trace_0, e1, lit, i1, bp_some, nI_eq, if_neg, in_nI, gd_tt, nI_clamp]
    · simp (disch := omega) only [M_trace_0, e2, lit, litL, i2, bp_some, nI_eq, if_neg, in_nI, gd_tt, nI_clamp, e3 i hi]
  · refine ⟨-3, σc, σm, ?_, ?_, h⟩
    · simp (disch := omega) only [C_trace_0, e1, lit, i1, bp_some, if_true]
    · simp (disch := omega) only [M_trace_0, e2, lit, litL, i2, bp_some, if_true]
end SHELF
