/-! a year of all -/
theorem lifeY0 {σ : Sg} {n k : Nat} (hn : n ≤ 8) (e : rd_ σ 1 3 = nI n) (hk : k < n) : C1_life_0 σ (nI k) = some (some k, σ) := by
  unfold C1_life_0
  simp (disch := omega) only [lit, e, cntc, pk_sub, cw1, bp_some, nI_eq, if_neg, in_nI, gd_tt, nI_clamp]
def pyS (σ : Sg) (g : Nat → Int32) : Nat → Sg
  | 0 => σ
  | i + 1 => pa (pyS σ g i) i (tG g i) (up1 (N_ g (16 + 6 * i + 4)))
def s8 (k j : Nat) : Prop := 34 ≤ k ∧ k < 42 ∧ (j = 1 ∨ j = 4)
theorem pyS_ag {σ : Sg} {g : Nat → Int32} {i : Nat} (hi : i ≤ 8) : ag s8 σ (pyS σ g i) := by
  induction i with
  | zero => exact ag.rf
  | succ i ih => exact (ih (by omega)).tr (pa_ag ⟨by omega, by omega, by omega⟩ ⟨by omega, by omega, by omega⟩)
theorem pyS_hi {σ : Sg} {g : Nat → Int32} {i o w : Nat} (h : i ≤ o) : rd_ (pyS σ g i) (34 + o) w = rd_ σ (34 + o) w := by
  induction i with
  | zero => rfl
  | succ i ih =>
    show rd_ (pa _ _ _ _) _ _ = _
    unfold pa
    rw [rd_k (by omega), rd_k (by omega), ih (by omega)]
theorem pyS_lo {σ : Sg} {g : Nat → Int32} {n i o w : Nat} (hn : i ≤ n) (l : ∀ o, o < n → cL σ o g o) (ho : o < i) (hw : w < 6) : rd_ (pyS σ g i) (34 + o) w = gO n g (16 + 6 * o + w) := by
  induction i with
  | zero => omega
  | succ i ih =>
    show rd_ (pa _ _ _ _) _ _ = _
    by_cases c : o = i
    · subst c
      have l1 : cL (pyS σ g o) o g o := fun w hw => (pyS_hi (Nat.le_refl _)).trans (l o (by omega) w hw)
      exact cL_pa (by omega) l1 w hw
    · unfold pa
      rw [rd_k (by omega), rd_k (by omega), ih (by omega) (by omega)]
section PY
variable {σc σm : Sg} {n : Nat}
def pyE (σ : Sg) (g : Nat → Int32) (n : Nat) : Sg := wr_ (pyS σ g n) 1 4 (g 1 + nI 1)
theorem cpassYear (h : RA σc σm n) : C1_passYear_0 σc = some ((), pyE σc (σm.1 1) n) := by
  have hn := h.1.2.1
  have hc : ∀ i, i ≤ n → rd_ (pyS σc (σm.1 1) i) 1 3 = nI n := fun i hi => by rw [(pyS_ag (by omega)).1 1 3 (by unfold s8; omega)]; exact h.cnt
  have hy : ∀ i, i ≤ n → rd_ (pyS σc (σm.1 1) i) 1 4 = σm.1 1 1 := fun i hi => by rw [(pyS_ag (by omega)).1 1 4 (by unfold s8; omega)]; exact h.yr1
  unfold C1_passYear_0
  refine lg2 (F := C1_passYear_2) (z := fun _ _ => none) n (fun i => pyS σc (σm.1 1) i) (fun i => nI i) _ ?_ ?_ (FU_gt (by omega))
  · intro K i hi
    have e : cE (pyS σc (σm.1 1) i) (σm.1 1) := by
      obtain ⟨e1, e2, e3⟩ := h.cE
      have a := pyS_ag (σ := σc) (g := σm.1 1) (i := i) (by omega)
      exact ⟨by rw [a.1 _ _ (by unfold s8; omega)]; exact e1, fun q hq => by rw [a.1 _ _ (by unfold s8; omega)]; exact e2 q hq, fun q hq => by rw [a.1 _ _ (by unfold s8; omega)]; exact e3 q hq⟩
    have l : cL (pyS σc (σm.1 1) i) i (σm.1 1) i := fun w hw => (pyS_hi (Nat.le_refl _)).trans (h.cL hi w hw)
    unfold C1_passYear_2 C1_passYear_29
    rw [hc i (by omega), if_neg (nI_ge hi (by omega)), lifeY0 hn (hc i (by omega)) hi, bi_some, on_S, hy i (by omega), cstep (by omega) h.1 hi e l, bi_some, lt_eq, lit, nI_add]
    rfl
  · intro K
    show C1_passYear_2 K (pyS σc (σm.1 1) n) (nI n) = _
    unfold C1_passYear_2
    rw [hc n (Nat.le_refl _), if_pos (Int32.le_refl _), lt_eq, hy n (Nat.le_refl _)]
    rfl
def aN (k j : Nat) : Prop := (k = 1 ∧ j = 4) ∨ s8 k j
theorem pyE_ag (hn : n ≤ 8) {g : Nat → Int32} : ag aN σc (pyE σc g n) := ((pyS_ag hn).mo (fun _ _ q => Or.inr q)).wr (Or.inl ⟨rfl, rfl⟩)
theorem RA.pass (h : RA σc σm n) : RA (pyE σc (σm.1 1) n) (st_ σm 1 (gO n (σm.1 1))) n := by
  have hn := h.1.2.1
  have a := pyE_ag (σc := σc) (g := σm.1 1) hn
  have nx : ∀ k j, ¬ (34 ≤ k) → ¬ (k = 1 ∧ j = 4) → rd_ (pyE σc (σm.1 1) n) k j = rd_ σc k j := fun k j h1 h2 => a.1 k j (by unfold aN s8; omega)
  obtain ⟨r1, r2, r3, r4, r5, r6, r7⟩ := h.2
  refine ⟨by rw [st_same]; exact gr_gO h.1, ?_⟩
  rw [st_same]
  refine ⟨?_, ?_, ?_, ?_, fun i hi => ?_, fun i hi => ?_, fun o ho w hw => ?_⟩
  · rw [nx _ _ (by omega) (by omega), gO_lo (by omega) (by omega)]; exact r1
  · rw [nx _ _ (by omega) (by omega), gO_lo (by omega) (by omega)]; exact r2
  · unfold pyE; rw [rd_same, gO_1]
  · rw [nx _ _ (by omega) (by omega), gO_lo (by omega) (by omega)]; exact r4
  · rw [nx _ _ (by omega) (by omega), gO_lo (by omega) (by omega)]; exact r5 i hi
  · rw [nx _ _ (by omega) (by omega), gO_lo (by omega) (by omega)]; exact r6 i hi
  · show rd_ _ (34 + o) w = _
    unfold pyE
    rw [rd_k (by omega), pyS_lo (Nat.le_refl _) (fun o ho => h.cL ho) ho hw]
theorem aN_aC {k j : Nat} (h : aN k j) : aC k j := by unfold aN s8 at h; unfold aC; omega
theorem RO.pass (o : RO σc σm) (hn : n ≤ 8) {g f : Nat → Int32} : RO (pyE σc g n) (st_ σm 1 f) := o.scr ((pyE_ag hn).mo (fun _ _ q => aN_aC q)) (ag.rf.st (fun j => Or.inl (Or.inr rfl)))
def yrS (σ : Sg) (g : Nat → Int32) (n : Nat) : Nat → Sg
  | 0 => σ
  | i + 1 => pyE (yrS σ g n i) (gN n g i) n
theorem yrS_R (h : RA σc σm n) (o : RO σc σm) (i : Nat) : RA (yrS σc (σm.1 1) n i) (st_ σm 1 (gN n (σm.1 1) i)) n ∧ RO (yrS σc (σm.1 1) n i) (st_ σm 1 (gN n (σm.1 1) i)) := by
  have hn := h.1.2.1
  induction i with
  | zero => simp only [yrS, gN, st_self]; exact ⟨h, o⟩
  | succ i ih =>
    have h1 := ih.1.pass
    have h2 := RO.pass (g := gN n (σm.1 1) i) (f := gO n (gN n (σm.1 1) i)) ih.2 hn
    rw [st_same, st_st] at h1
    rw [st_st] at h2
    exact ⟨h1, h2⟩
theorem eq_years (h : R σc σm) (x1 : Int32) : eqv (C_years_0 σc x1) (M_years_0 σm x1) := by
  obtain ⟨⟨n, ha⟩, ho⟩ := id h
  have hn := ha.1.2.1
  rcases below1 (v := x1) (b := 60) (by omega) with ⟨m, h1, h2, rfl⟩ | hv
  · have hr := yrS_R ha ho
    have hC : C_years_0 σc (nI m) = some (sT (gN n (σm.1 1) m) n, yrS σc (σm.1 1) n m) := by
      simp (disch := omega) only [C_years_0, lit, nI_ltI, if_neg, nI_leI, if_pos]
      refine lg3 (F := C_years_15) (z := fun _ _ _ => none) m (fun i => yrS σc (σm.1 1) n i) (fun _ => nI m) (fun i => nI i) _ ?_ ?_ (FU_gt (by omega))
      · intro K i hi
        unfold C_years_15
        rw [if_neg (nI_ge hi (by omega)), cpassYear (hr i).1, bi_some, lt_eq, st_same, lit, nI_add]
        rfl
      · intro K
        unfold C_years_15
        rw [if_pos (Int32.le_refl _), ctraits (hr m).1, bi_some, st_same]
    have hM : M_years_0 σm (nI m) = some (sT (gN n (σm.1 1) m) n, st_ σm 1 (gN n (σm.1 1) m)) := by
      have hg : gr ((st_ σm 1 (gN n (σm.1 1) m)).1 1) n := by rw [st_same]; exact gr_gN ha.1 m
      simp (disch := omega) only [M_years_0, lit, litL, mi1, bp_some, nI_eq, if_neg, mgoes ha.1, bi_some, mtraits hg, st_same]
    exact ⟨_, _, _, hC, hM, R.mk (hr m).1 (hr m).2⟩
  · refine ⟨-1, σc, σm, ?_, ?_, h⟩
    · rcases hv with hv | hv
      · simp only [C_years_0, lit, if_pos hv]
      · by_cases c : x1 < nI 1
        · simp only [C_years_0, lit, if_pos c]
        · simp only [C_years_0, lit, if_neg c, if_neg (Int32.not_le.mpr hv)]
    · simp (disch := omega) only [M_years_0, lit, litL, mi0 (by omega) (by omega) hv, bp_some, if_true]
end PY
/-! draws -/
def zz (z : Int32) : Int32 := z * 1103515245 + 12345
def dr (z : Int32) : Nat := z.toBitVec.toNat / 2 ^ 16
theorem dr_lt (z : Int32) : dr z < 65536 := by
  unfold dr
  have := z.toBitVec.isLt
  omega
theorem dr_eq (z : Int32) : (z.toUInt32 >>> ((16 : Int32).toUInt32 &&& Int32.toUInt32 31)).toInt32 = nI (dr z) := by
  refine Int32.toBitVec_inj.mp (BitVec.eq_of_toNat_eq ?_)
  rw [pk_ushr z 16 16 (by decide)]
  exact (pk_tn (by have := dr_lt z; omega)).symm
theorem cdraw (σ : Sg) : C1_draw_0 σ = some (nI (dr (zz (rd_ σ 1 5))), wr_ σ 1 5 (zz (rd_ σ 1 5))) := by
  unfold C1_draw_0
  rw [lt_eq, rd_same, dr_eq]
  rfl
theorem mdraw (σ : Sg) : M_drawn_0 σ = some (nI (dr (zz (rd_ σ 1 2))), wr_ σ 1 2 (zz (rd_ σ 1 2))) := by
  unfold M_drawn_0
  rw [lt_eq, rd_same, dr_eq]
  rfl
def z1 (z : Int32) : Int32 := zz z
def z2 (z : Int32) : Int32 := zz (zz z)
def z3 (z : Int32) : Int32 := zz (zz (zz z))
theorem wr_wr (σ : Sg) (k j : Nat) (u v : Int32) : wr_ (wr_ σ k j u) k j v = wr_ σ k j v := by
  rw [wr_as_st, row_same, wr_as_st σ k j u, st_st, upd_upd]
  rfl
section DRAW
variable {σ : Sg} {n s : Nat}
theorem cslip0 (h : rd_ σ 1 3 = nI 0) : C1_drawSlip_0 σ = some (-3, σ) := by
  unfold C1_drawSlip_0
  rw [h, if_neg (by decide)]
theorem cslip1 (hn : n ≤ 8) (h0 : 0 < n) (h : rd_ σ 1 3 = nI n) (hs : s ≤ 99) (e : rd_ σ 4 3 = nI s) (c : s ≤ dr (z2 (rd_ σ 1 5)) % 100) : C1_drawSlip_0 σ = some (-3, wr_ σ 1 5 (z2 (rd_ σ 1 5))) := by
  have b1 := dr_lt (zz (rd_ σ 1 5))
  have b2 := dr_lt (z2 (rd_ σ 1 5))
  unfold C1_drawSlip_0
  rw [h, if_pos (show (0 : Int32) < nI n from nI_lt (a := 0) h0 (by omega)), cdraw, bi_some, rd_j (by omega), h, nz_tt h0 (by omega), gd_tt, lt_eq, cdraw, bi_some, rd_same, wr_wr, rd_k (by omega), e]
  rw [show zz (zz (rd_ σ 1 5)) = z2 (rd_ σ 1 5) from rfl, lit, pk_rem (by omega) (by omega) (by omega), if_neg (nI_nlt c (by omega))]
theorem cslip2 (hn : n ≤ 8) (h0 : 0 < n) (h : rd_ σ 1 3 = nI n) (hs : s ≤ 99) (e : rd_ σ 4 3 = nI s) (c : dr (z2 (rd_ σ 1 5)) % 100 < s) : C1_drawSlip_0 σ = some (nI (dr (z1 (rd_ σ 1 5)) % n * 8 + dr (z3 (rd_ σ 1 5)) % 8), wr_ σ 1 5 (z3 (rd_ σ 1 5))) := by
  have b1 := dr_lt (z1 (rd_ σ 1 5))
  have b2 := dr_lt (z2 (rd_ σ 1 5))
  have b3 := dr_lt (z3 (rd_ σ 1 5))
  unfold C1_drawSlip_0
  rw [h, if_pos (show (0 : Int32) < nI n from nI_lt (a := 0) h0 (by omega)), cdraw, bi_some, rd_j (by omega), h, nz_tt h0 (by omega), gd_tt, lt_eq, cdraw, bi_some, rd_same, wr_wr, rd_k (by omega), e, cdraw, bi_some, rd_same, wr_wr]
  rw [show zz (zz (zz (rd_ σ 1 5))) = z3 (rd_ σ 1 5) from rfl, show zz (zz (rd_ σ 1 5)) = z2 (rd_ σ 1 5) from rfl, show zz (rd_ σ 1 5) = z1 (rd_ σ 1 5) from rfl]
  simp (disch := omega) only [lit, pk_rem, nI_ltI, if_pos, pk_mul, nI_add]
theorem myear0 (h : rd_ σ 1 0 = nI 0) : M_year_0 σ = M_year_59 σ := by
  unfold M_year_0
  rw [h, if_pos (by decide)]
theorem myear1 (hn : n ≤ 8) (h0 : 0 < n) (h : rd_ σ 1 0 = nI n) (hs : s ≤ 99) (e : rd_ σ 1 6 = nI s) (c : s ≤ dr (z2 (rd_ σ 1 2)) % 100) : M_year_0 σ = M_year_59 (wr_ σ 1 2 (z2 (rd_ σ 1 2))) := by
  have b1 := dr_lt (zz (rd_ σ 1 2))
  have b2 := dr_lt (z2 (rd_ σ 1 2))
  unfold M_year_0
  rw [h, if_neg (show ¬ nI n ≤ 0 from nI_ge (a := 0) h0 (by omega)), mdraw, bi_some, rd_j (by omega), h, nz_tt h0 (by omega), gd_tt, lt_eq, mdraw, bi_some, rd_same, wr_wr, rd_j (by omega), e]
  rw [show zz (zz (rd_ σ 1 2)) = z2 (rd_ σ 1 2) from rfl, show (100 : Int32) = nI 100 from rfl, pk_rem (a := dr (z2 (rd_ σ 1 2))) (d := 100) (by omega) (by omega) (by omega), if_pos (nI_le c (by omega))]
theorem myear2 (hn : n ≤ 8) (h0 : 0 < n) (h : rd_ σ 1 0 = nI n) (hs : s ≤ 99) (e : rd_ σ 1 6 = nI s) (c : dr (z2 (rd_ σ 1 2)) % 100 < s) : M_year_0 σ = M_year_59 (wr_ (wr_ σ 1 2 (z3 (rd_ σ 1 2))) 1 (16 + 6 * (dr (z1 (rd_ σ 1 2)) % n) + 5) (nI (dr (z3 (rd_ σ 1 2)) % 8))) := by
  have b1 := dr_lt (z1 (rd_ σ 1 2))
  have b2 := dr_lt (z2 (rd_ σ 1 2))
  have b3 := dr_lt (z3 (rd_ σ 1 2))
  have bm := Nat.mod_lt (dr (z1 (rd_ σ 1 2))) h0
  unfold M_year_0
  rw [h, if_neg (show ¬ nI n ≤ 0 from nI_ge (a := 0) h0 (by omega)), mdraw, bi_some, rd_j (by omega), h, nz_tt h0 (by omega), gd_tt, lt_eq, mdraw, bi_some, rd_same, wr_wr, rd_j (by omega), e, mdraw, bi_some, rd_same, wr_wr]
  rw [show zz (zz (zz (rd_ σ 1 2))) = z3 (rd_ σ 1 2) from rfl, show zz (zz (rd_ σ 1 2)) = z2 (rd_ σ 1 2) from rfl, show zz (rd_ σ 1 2) = z1 (rd_ σ 1 2) from rfl]
  generalize dr (z1 (rd_ σ 1 2)) = a at b1 bm ⊢
  generalize dr (z2 (rd_ σ 1 2)) = b at b2 c ⊢
  generalize dr (z3 (rd_ σ 1 2)) = d at b3 ⊢
  generalize z3 (rd_ σ 1 2) = zf
  have e1 : nI b - nI b / 100 * 100 = nI (b % 100) := pk_rem (by omega) (d := 100) (by omega) (by omega)
  have e2 : nI a - nI a / nI n * nI n = nI (a % n) := pk_rem (by omega) h0 (by omega)
  have e3 : nI d - nI d / 8 * 8 = nI (d % 8) := pk_rem (by omega) (d := 8) (by omega) (by omega)
  have e4 : (16 : Int32) + 6 * nI (a % n) + 5 = nI (16 + 6 * (a % n) + 5) := by
    simp only [lit, pk_mul, nI_add]
  rw [e1, e2, e3, e4, if_neg (nI_ge c (by omega)), in_nI (by omega) (by omega), gd_tt, lt_eq, nI_clamp (by omega)]
end DRAW
section YEAR
variable {σc σm : Sg} {n : Nat}
theorem y59 (ha : RA σc σm n) (ho : RO σc σm) : eqv (C_year_36 σc) (M_year_59 σm) := by
  have hn := ha.1.2.1
  have h1 := ha.pass
  refine ⟨sT (gO n (σm.1 1)) n, pyE σc (σm.1 1) n, st_ σm 1 (gO n (σm.1 1)), ?_, ?_, R.mk h1 (ho.pass hn)⟩
  · unfold C_year_36
    rw [cpassYear ha, bi_some, ctraits h1, bi_some, st_same]
  · unfold M_year_59
    rw [mgoesOn ha.1, bi_some, mtraits h1.1, bi_some, st_same]
theorem RO.zed (ho : RO σc σm) (v : Int32) : RO (wr_ σc 1 5 v) (wr_ σm 1 2 v) := RO.scr ho (ag.rf.wr (by simp [aC])) (ag.rf.wr (by simp [aM]))
theorem eq_year (h : R σc σm) : eqv (C_year_0 σc) (M_year_0 σm) := by
  obtain ⟨⟨n, ha⟩, ho⟩ := id h
  have hn := ha.1.2.1
  obtain ⟨s, hs, es⟩ := ha.1.2.2.1 3 (by omega)
  have hs9 : s ≤ 99 := hs
  have ec : rd_ σc 4 3 = nI s := (ha.2.2.2.2.2.1 3 (by omega)).trans es
  have em : rd_ σm 1 6 = nI s := es
  have ez : rd_ σc 1 5 = rd_ σm 1 2 := ha.2.2.2.2.1
  by_cases h0 : n = 0
  · subst h0
    rw [myear0 ha.n0]
    have : C_year_0 σc = C_year_36 σc := by
      unfold C_year_0
      rw [cslip0 ha.cnt, bi_some, if_pos (by decide)]
    rw [this]
    exact y59 ha ho
  · by_cases c : s ≤ dr (z2 (rd_ σm 1 2)) % 100
    · rw [myear1 hn (by omega) ha.n0 hs9 em c]
      have : C_year_0 σc = C_year_36 (wr_ σc 1 5 (z2 (rd_ σm 1 2))) := by
        unfold C_year_0
        rw [cslip1 hn (by omega) ha.cnt hs9 ec (by rw [ez]; exact c), bi_some, if_pos (by decide), ez]
      rw [this]
      exact y59 (ha.zed _) (RO.zed ho _)
    · have bm := Nat.mod_lt (dr (z1 (rd_ σm 1 2))) (show n > 0 by omega)
      have b8 := Nat.mod_lt (dr (z3 (rd_ σm 1 2))) (show 8 > 0 by omega)
      rw [myear2 hn (by omega) ha.n0 hs9 em (by omega)]
      have hz := ha.zed (z3 (rd_ σm 1 2))
      have : C_year_0 σc = C_year_36 (wr_ (wr_ σc 1 5 (z3 (rd_ σm 1 2))) (34 + dr (z1 (rd_ σm 1 2)) % n) 5 (nI (dr (z3 (rd_ σm 1 2)) % 8))) := by
        unfold C_year_0
        rw [cslip2 hn (by omega) ha.cnt hs9 ec (by rw [ez]; omega), bi_some, if_neg (nI_pos (by rw [ez]; omega)), ez]
        have e1 : nI (dr (z1 (rd_ σm 1 2)) % n * 8 + dr (z3 (rd_ σm 1 2)) % 8) / 8 = nI (dr (z1 (rd_ σm 1 2)) % n) := by
          rw [show (8 : Int32) = nI 8 from rfl, pk_div (by omega) (by omega) (by omega)]
          exact congrArg nI (by omega)
        have e2 : nI (dr (z1 (rd_ σm 1 2)) % n * 8 + dr (z3 (rd_ σm 1 2)) % 8) - nI (dr (z1 (rd_ σm 1 2)) % n * 8 + dr (z3 (rd_ σm 1 2)) % 8) / 8 * 8 = nI (dr (z3 (rd_ σm 1 2)) % 8) := by
          rw [show (8 : Int32) = nI 8 from rfl, pk_rem (by omega) (by omega) (by omega)]
          exact congrArg nI (by omega)
        rw [e2, e1, lifeY hz bm, bi_some, on_S, lf_tt (by omega), gd_tt, lt_eq]
      rw [this]
      exact y59 (hz.life bm (by omega) (show _ ≤ 7 by omega)) (RO.scr (RO.zed ho _) (ag.rf.wr (aC_life (by omega))) (ag.rf.wr (by simp [aM])))
end YEAR
