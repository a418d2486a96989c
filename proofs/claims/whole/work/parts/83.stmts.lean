/-! statements of a text, one by one -/
theorem ag.uC' {σ τ : Sg} (a : ag fC' σ τ) : ag uC σ τ := a.mo (fun _ _ q => fC_uC q)
theorem ag.uM' {σ τ : Sg} (a : ag fM' σ τ) : ag uM σ τ := a.mo (fun _ _ q => fM_uM q)
theorem uC_L {j w : Nat} (h : 16 ≤ j ∧ j < 24) : uC (34 + j) w := Or.inr (Or.inr (Or.inr (Or.inl ⟨by omega, by omega⟩)))
section STMTS
variable {t : Nat} {B : Nat → Nat} {τc τm : Sg} {p b e c n : Nat}
theorem outE {σc σm : Sg} {e0 : Nat} (a : ag uC σc τc) (am : ag uM σm τm) (h : NS t B τc τm p b e c) (he : e0 + 1 ≤ e) (ht : TO τc (τm.1 1) n) : OUT t B e0 σc σm (C8_tellStatement_3_129 τc) (M_itemHere_105 τm) := by
  have hl := h.2.1.2.2.2.le
  unfold C8_tellStatement_3_129
  rcases semiN h with ⟨υc, υm, b', e', c', s1, s2, s3, s4, s5, s6⟩ | ⟨υc, υm, s1, s2, s3, s4, s5⟩
  · have hl2 := s3.2.1.2.2.2.le
    exact ⟨υc, υm, by rw [s1, bi_some], s2, a.tr s5.uC', am.tr s6.uM', Or.inl ⟨e, b', e', c', n, s3, by omega, by rw [row_fM s6]; exact ht.ff s5⟩⟩
  · exact ⟨υc, υm, by rw [s1, bi_some], s2, a.tr s4.uC', am.tr s5.uM', Or.inr s3⟩
/-- a law -/
theorem lawS {l : Nat} (hl : l < 4) (h : NS t B τc τm p b e c) (ht : TO τc (τm.1 1) n) : OUT t B e τc τm (bi_ (C8_step_0 τc) fun _ σ_40 => gd_ (in_ (nI l) 4) (bi_ (C8_number_0 σ_40 (lmA (nI l).toNatClampNeg)) fun r_44 σ_43 => gd_ (in_ (nI l) 4) (lt_ (wr_ σ_43 6 (nI l).toNatClampNeg r_44) fun σ_45 => C8_tellStatement_3_129 σ_45))) (bi_ (M_nextToken_0 τm) fun _ σ_24 => bi_ (M_numberTo_0 σ_24 (nI (3 + l)) (nI (bl l))) fun _ σ_2 => M_itemHere_105 σ_2) := by
  have hb := bl_le l
  obtain ⟨υc, υm, b1, e1, c1, s1, s2, s3, s4, s5⟩ := stepN h
  have q1 := s3.2.1.2.2.2.le
  rw [s1, bi_some, s2, bi_some, in_nI hl (by omega), gd_tt, nI_clamp (by omega), lmA_lt hl]
  rcases numN (at' := 3 + l) hb (by omega) s3 with ⟨ωc, ωm, b2, e2, c2, v, hv, n1, n2, n3, n4, n5, n6⟩ | ⟨ωc, ωm, n1, n2, n3, n4, n5⟩
  · have q2 := n3.2.1.2.2.2.le
    rw [n1, bi_some, n2, bi_some, gd_tt, lt_eq]
    have er : ωm.1 1 = upd (τm.1 1) (3 + l) (nI v) := by rw [row_fM n6, row_same, row_fM s5]
    refine outE (n := n) ((s4.uC'.tr n5.uC').wr (Or.inr (Or.inl rfl))) (s5.uM'.tr ((ag.rf.wr (Or.inl rfl)).tr n6.uM')) (n3.wrC ⟨by omega, by omega⟩) (by omega) ?_
    rw [er]
    exact ((ht.ff s4).ff n5).law hl hv
  · rw [n1, bi_some, n2, bi_some, gd_tt, lt_eq]
    exact outF ((s4.uC'.tr n4.uC').wr (Or.inr (Or.inl rfl))) (s5.uM'.tr n5.uM') (n3.wrC ⟨by omega, by omega⟩)
/-- a number of a godmother -/
theorem cnumY {most : Nat} {υc : Sg} (hm : most ≤ 99) (h : NS t B τc τm p b e c) (g : nok B b e c most) (s1 : C8_step_0 τc = some ((), υc)) : C8_number_0 τc (nI most) = some (nI (vl B b (e - b)), υc) := by
  obtain ⟨x, kc, km, f1, f2⟩ := h
  unfold C8_number_0
  rw [cvalue x kc, bi_some, cwv kc.2.2.2 hm, bp_some, dcd_t g, if_neg (by decide), if_pos ⟨g.1, g.2.1⟩]
  unfold C8_number_17
  rw [f1, if_pos m1_neg, s1, bi_some]
theorem cnumN {most : Nat} (hm : most ≤ 99) (h : NS t B τc τm p b e c) (g : ¬ nok B b e c most) : C8_number_0 τc (nI most) = some (nI 0, wr_ τc 20 5 (nI b)) := by
  have g1 := (failN h).1
  have ht := h.1.1
  have hl := h.2.1.2.2.2.le
  obtain ⟨x, kc, km, f1, f2⟩ := h
  unfold C8_number_0
  rw [cvalue x kc, bi_some, cwv kc.2.2.2 hm, bp_some, dcd_f g, if_pos (by decide), g1, bi_some]
  unfold C8_number_17
  rw [rd_same, if_neg (nI_pos (by omega))]
  rfl
theorem chainY {β : Type} {X Y : Option β} (k : MT t B τm p b e c) (ht : t ≤ 200) (g : nok B b e c 7) : (if rd_ τm 0 7 = (2 : Int32) then (if (3 : Int32) < rd_ τm 0 9 - rd_ τm 0 8 then X else (if (8 : Int32) ≤ rd_ τm 0 10 then X else Y)) else X) = Y := by
  obtain ⟨m8, m9, m7, k, mv⟩ := k
  have hl := k.le
  obtain ⟨g1, g2, g3⟩ := g
  rw [m7, if_pos (show nI c = (2 : Int32) by rw [g1]; rfl), m9, m8, pk_sub hl.2.1, if_neg (show ¬ (3 : Int32) < nI (e - b) from nI_nlt (a := 3) g2 (by omega)), mv g1, if_neg (show ¬ (8 : Int32) ≤ nI (vl B b (e - b)) from nI_ge (b := 8) (by omega) (by omega))]
theorem chainN {β : Type} {X Y : Option β} (k : MT t B τm p b e c) (ht : t ≤ 200) (g : ¬ nok B b e c 7) : (if rd_ τm 0 7 = (2 : Int32) then (if (3 : Int32) < rd_ τm 0 9 - rd_ τm 0 8 then X else (if (8 : Int32) ≤ rd_ τm 0 10 then X else Y)) else X) = X := by
  obtain ⟨m8, m9, m7, k, mv⟩ := k
  have hl := k.le
  rw [m7]
  by_cases g1 : c = 2
  · have hv := vl_lt k g1
    rw [if_pos (show nI c = (2 : Int32) by rw [g1]; rfl), m9, m8, pk_sub hl.2.1]
    by_cases g2 : e - b ≤ 3
    · rw [if_neg (show ¬ (3 : Int32) < nI (e - b) from nI_nlt (a := 3) g2 (by omega)), mv g1, if_pos (show (8 : Int32) ≤ nI (vl B b (e - b)) from nI_le (a := 8) (by
        have : ¬ vl B b (e - b) ≤ 7 := fun q => g ⟨g1, g2, q⟩
        omega) (by omega))]
    · rw [if_pos (show (3 : Int32) < nI (e - b) from nI_lt (a := 3) (by omega) (by omega))]
  · rw [if_neg (show ¬ nI c = (2 : Int32) from fun q => g1 ((nI_eq (b := 2) (by omega) (by omega)).mp q))]
/-- a vice -/
theorem viceF (h : FS t B τc τm) {x1 : Int32} : (bi_ (M_isTwo_0 τm (105 : Int32) (115 : Int32)) fun r_5 σ_4 => bi_ (M_needs_0 σ_4 r_5) fun _ σ_7 => if (rd_ σ_7 0 11) = 0 then (M_viceHere_76 σ_7 ((8 : Int32) + x1)) else (M_viceHere_76 σ_7 (0 : Int32))) = some ((), τm) := by
  obtain ⟨x, kc, ⟨p2, b2, e2, c2, km, f1⟩, f2⟩ := id h
  rw [show (105 : Int32) = nI 105 from rfl, show (115 : Int32) = nI 115 from rfl, misTwo (z := 1) x km rfl (by omega) (by omega), bi_some, needsF h, bi_some, f2, if_neg (by decide)]
  unfold M_viceHere_76
  rw [show (99 : Int32) = nI 99 from rfl, (numF (most := 99) (by omega) h).2, bi_some]
theorem viceS (h : NS t B τc τm p b e c) (ht : TO τc (τm.1 1) n) : OUT t B e τc τm (bi_ (C8_step_0 τc) fun _ σ_27 => bi_ (C8_number_0 σ_27 (7 : Int32)) fun r_30 σ_29 => bi_ (C8_name_0 σ_29 1) fun _ σ_32 => bi_ (C8_number_0 σ_32 (99 : Int32)) fun r_35 σ_34 => gd_ (in_ r_30 8) (lt_ (wr_ σ_34 9 r_30.toNatClampNeg r_35) fun σ_36 => C8_tellStatement_3_129 σ_36)) (bi_ (M_viceHere_0 τm) fun _ σ_22 => M_itemHere_105 σ_22) := by
  obtain ⟨υc, υm, b1, e1, c1, s1, s2, s3, s4, s5⟩ := stepN h
  have q1 := s3.2.1.2.2.2.le
  have t2 := s3.1.1
  unfold M_viceHere_0
  rw [s1, bi_some, s2, bi_some, lt_eq, show (7 : Int32) = nI 7 from rfl, show (99 : Int32) = nI 99 from rfl]
  by_cases g : nok B b1 e1 c1 7
  · obtain ⟨ωc, ωm, b2, e2, c2, u1, u2, u3, u4, u5⟩ := stepN s3
    have q2 := u3.2.1.2.2.2.le
    have hv : vl B b1 (e1 - b1) ≤ 7 := g.2.2
    rw [chainY s3.2.2.1 t2 g, cnumY (most := 7) (by omega) s3 g u1, bi_some, s3.2.2.1.2.2.2.2 g.1]
    generalize vl B b1 (e1 - b1) = v at hv ⊢
    unfold M_viceHere_45
    rw [needs1 s3.2.2.2.2 u2, bi_some, show (105 : Int32) = nI 105 from rfl, show (115 : Int32) = nI 115 from rfl, misTwo (z := 1) u3.1 u3.2.2.1 rfl (by omega) (by omega), bi_some]
    rcases nameN (z := 1) (by omega) u3 with ⟨ξc, ξm, b3, e3, c3, w1, w2, w3, w4, w5⟩ | ⟨ξc, ξm, w1, w2, w3, w4, w5⟩
    · have q3 := w3.2.1.2.2.2.le
      rw [w1, bi_some, w2, bi_some, w3.2.2.2.2, if_pos (show nI 0 = 0 from rfl)]
      unfold M_viceHere_76
      rw [show (8 : Int32) + nI v = nI (8 + v) from nI_add 8 v, show (99 : Int32) = nI 99 from rfl]
      rcases numN (most := 99) (at' := 8 + v) (by omega) (by omega) w3 with ⟨ζc, ζm, b4, e4, c4, a, ha, n1, n2, n3, n4, n5, n6⟩ | ⟨ζc, ζm, n1, n2, n3, n4, n5⟩
      · have q4 := n3.2.1.2.2.2.le
        rw [n1, bi_some, n2, bi_some, bi_some, in_nI (by omega) (by omega), gd_tt, nI_clamp (by omega), lt_eq]
        have er : ζm.1 1 = upd (τm.1 1) (8 + v) (nI a) := by rw [row_fM n6, row_same, row_fM w5, row_fM u5, row_fM s5]
        refine outE (n := n) ((((s4.uC'.tr u4.uC').tr w4.uC').tr n5.uC').wr (Or.inr (Or.inr (Or.inl rfl)))) ((((s5.uM'.tr u5.uM').tr w5.uM')).tr ((ag.rf.wr (Or.inl rfl)).tr n6.uM')) (n3.wrC ⟨by omega, by omega⟩) (by omega) ?_
        rw [er]
        exact ((((ht.ff s4).ff u4).ff w4).ff n5).vice (by omega) ha
      · rw [n1, bi_some, n2, bi_some, bi_some, in_nI (by omega) (by omega), gd_tt, nI_clamp (by omega), lt_eq]
        exact outF ((((s4.uC'.tr u4.uC').tr w4.uC').tr n4.uC').wr (Or.inr (Or.inr (Or.inl rfl)))) ((((s5.uM'.tr u5.uM').tr w5.uM')).tr n5.uM') (n3.wrC ⟨by omega, by omega⟩)
    · rw [w1, bi_some, w2, bi_some, w3.2.2.2, if_neg (by decide)]
      unfold M_viceHere_76
      rw [show (99 : Int32) = nI 99 from rfl, (numF (most := 99) (by omega) w3).1, (numF (most := 99) (by omega) w3).2, bi_some, bi_some, bi_some, in_nI (by omega) (by omega), gd_tt, nI_clamp (by omega), lt_eq]
      exact outF (((s4.uC'.tr u4.uC').tr w4.uC').wr (Or.inr (Or.inr (Or.inl rfl)))) ((s5.uM'.tr u5.uM').tr w5.uM') (w3.wrC ⟨by omega, by omega⟩)
  · obtain ⟨f1, f2, f3, f4, f5⟩ := failN s3
    obtain ⟨ωc, w1, w2, w3⟩ := nameF (z := 1) (by omega) f3
    rw [chainN s3.2.2.1 t2 g, cnumN (most := 7) (by omega) s3 g, bi_some]
    unfold M_viceHere_44 M_viceHere_45
    rw [f2, bi_some, viceF f3, bi_some, w1, bi_some, (numF (most := 99) (by omega) w2).1, bi_some, in_nI (by omega) (by omega), gd_tt, nI_clamp (by omega), lt_eq]
    exact outF (((s4.uC'.tr f4.uC').tr w3.uC').wr (Or.inr (Or.inr (Or.inl rfl)))) (s5.uM'.tr f5.uM') (w2.wrC ⟨by omega, by omega⟩)
/-- one that is easy -/
theorem or_easy {E g : Nat} (hE : E < 256) (hg : g < 8) : ∃ k, k < 256 ∧ nI E ||| ((1 : Int32) <<< (nI g &&& 31)) = nI k := by
  have key : ∀ E : Fin 256, ∀ g : Fin 8, decide ((nI E.1 ||| ((1 : Int32) <<< (nI g.1 &&& 31))).toBitVec.toNat < 256) = true := by decide +kernel
  have h := of_decide_eq_true (key ⟨E, hE⟩ ⟨g, hg⟩)
  refine ⟨_, h, ?_⟩
  refine Int32.toBitVec_inj.mp (BitVec.eq_of_toNat_eq ?_)
  exact (pk_tn (n := (nI E ||| ((1 : Int32) <<< (nI g &&& 31))).toBitVec.toNat) (by omega)).symm
theorem easyS (h : NS t B τc τm p b e c) (ht : TO τc (τm.1 1) n) : OUT t B e τc τm (bi_ (C8_step_0 τc) fun _ σ_20 => bi_ (C8_number_0 σ_20 (7 : Int32)) fun r_23 σ_22 => lt_ (wr_ σ_22 3 2 ((rd_ σ_20 3 2) ||| ((1 : Int32) <<< (r_23 &&& 31)))) fun σ_24 => C8_tellStatement_3_129 σ_24) (bi_ (M_easyHere_0 τm) fun _ σ_20 => M_itemHere_105 σ_20) := by
  obtain ⟨υc, υm, b1, e1, c1, s1, s2, s3, s4, s5⟩ := stepN h
  have q1 := s3.2.1.2.2.2.le
  have t2 := s3.1.1
  obtain ⟨E, hE, eE⟩ := ht.1.2.2.2.1
  have ec : rd_ υc 3 2 = nI E := by rw [s4.1 _ _ (by unfold fC'; omega)]; exact ht.2.1.trans eE
  have em : rd_ υm 1 7 = nI E := by rw [s5.1 _ _ (by unfold fM'; omega)]; exact eE
  unfold M_easyHere_0
  rw [s1, bi_some, s2, bi_some, lt_eq, show (7 : Int32) = nI 7 from rfl, ec]
  by_cases g : nok B b1 e1 c1 7
  · obtain ⟨ωc, ωm, b2, e2, c2, u1, u2, u3, u4, u5⟩ := stepN s3
    have q2 := u3.2.1.2.2.2.le
    have hv : vl B b1 (e1 - b1) ≤ 7 := g.2.2
    have hbe : b1 < e1 := by
      rcases s3.2.1.2.2.2.2.2.2.2.2.2 with z | z | z
      · have := g.1; omega
      · have := g.1; omega
      · exact z.2.1
    rw [chainY s3.2.2.1 t2 g, cnumY (most := 7) (by omega) s3 g u1, bi_some, s3.2.2.1.2.2.2.2 g.1]
    generalize vl B b1 (e1 - b1) = v at hv ⊢
    obtain ⟨k, hk, ek⟩ := or_easy hE (g := v) (by omega)
    have em2 : rd_ ωm 1 7 = nI E := by rw [u5.1 _ _ (by unfold fM'; omega)]; exact em
    unfold M_easyHere_45
    rw [needs1 s3.2.2.2.2 u2, bi_some, u3.2.2.2.2, if_pos (show nI 0 = 0 from rfl), em2]
    unfold M_easyHere_70
    rw [ek, lt_eq, show (7 : Int32) = nI 7 from rfl, in_nI (by omega) (by omega), gd_tt, nI_clamp (by omega), lt_eq, bi_some]
    have ag1 : ag (fun k _ => k = 1) ωm (wr_ ωm 1 7 (nI k)) := ag.rf.wr rfl
    refine outE (n := n) ((s4.uC'.tr u4.uC').wr (Or.inl rfl)) ((s5.uM'.tr u5.uM').wr (Or.inl rfl)) ((u3.wrC ⟨by omega, by omega⟩).agM ag1) (by omega) ?_
    rw [row_same, row_fM u5, row_fM s5]
    exact ((ht.ff s4).ff u4).easy hk
  · obtain ⟨f1, f2, f3, f4, f5⟩ := failN s3
    have em2 : rd_ (wr_ υm 0 11 (nI 1)) 1 7 = nI E := by rw [rd_k (by omega)]; exact em
    rw [chainN s3.2.2.1 t2 g, cnumN (most := 7) (by omega) s3 g, bi_some]
    unfold M_easyHere_44 M_easyHere_45
    rw [f2, bi_some, f3.2.2.2, if_neg (by decide)]
    unfold M_easyHere_70
    rw [show (7 : Int32) = nI 7 from rfl, in_nI (by omega) (by omega), gd_tt, nI_clamp (by omega), em2, Int32.or_zero, wr_self em2, lt_eq, lt_eq, bi_some]
    exact outF ((s4.uC'.tr f4.uC').wr (Or.inl rfl)) (s5.uM'.tr f5.uM') (f3.wrC ⟨by omega, by omega⟩)
end STMTS
