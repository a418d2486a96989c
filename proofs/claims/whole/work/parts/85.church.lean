/-! a text, statement by statement -/
section TELL
variable {t : Nat} {B : Nat → Nat} {τc τm : Sg} {p b e c n : Nat}
theorem kd_le : kd B b e c ≤ 6 := by
  unfold kd
  repeat' split
  all_goals omega
theorem lw_le : lw B b e c ≤ 4 := by
  unfold lw
  repeat' split
  all_goals omega
theorem lawM {l : Nat} (hl : l < 4) {σ : Sg} : (bi_ (M_nextToken_0 σ) fun _ σ_24 => if nI (3 + l) = (5 : Int32) then (M_itemHere_43 σ_24 (nI (3 + l))) else (if nI (3 + l) = (6 : Int32) then (M_itemHere_43 σ_24 (nI (3 + l))) else (M_itemHere_50 σ_24 (9 : Int32) (nI (3 + l))))) = (bi_ (M_nextToken_0 σ) fun _ σ_24 => bi_ (M_numberTo_0 σ_24 (nI (3 + l)) (nI (bl l))) fun _ σ_2 => M_itemHere_105 σ_2) := by
  refine congrArg (bi_ (M_nextToken_0 σ)) (funext fun _ => funext fun σ1 => ?_)
  have : l = 0 ∨ l = 1 ∨ l = 2 ∨ l = 3 := by omega
  rcases this with rfl | rfl | rfl | rfl
  · rw [if_neg (by decide), if_neg (by decide)]; rfl
  · rw [if_neg (by decide), if_neg (by decide)]; rfl
  · rw [if_pos (by decide)]; rfl
  · rw [if_neg (by decide), if_pos (by decide)]; rfl
theorem tellS (h : NS t B τc τm p b e c) (ht : TO τc (τm.1 1) n) : OUT t B e τc τm (C8_tellStatement_3_0 τc) (M_itemHere_0 τm) := by
  have x := h.1
  have kc := h.2.1
  have km := h.2.2.1
  have z3 : (-3 : Int32) < 0 := by decide
  have z1 : (-1 : Int32) < 0 := by decide
  have n0 : nI (nb1 false) = 0 := by decide
  have n1 : ¬ nI (nb1 true) = 0 := by decide
  unfold C8_tellStatement_3_0 M_itemHere_0
  rw [ckindTold x kc, bi_some, clawTold x kc, bi_some, mkindHere x km, bi_some, mlawHere x km, bi_some]
  by_cases k6 : kd B b e c = 6
  · rw [if_pos k6, if_pos k6, if_pos z3, if_pos z1]
    by_cases l4 : lw B b e c = 4
    · rw [if_pos l4, if_pos l4, if_pos z3, if_pos z1, cisName x kc (by omega), bi_some, show (118 : Int32) = nI 118 from rfl, show (105 : Int32) = nI 105 from rfl, show (99 : Int32) = nI 99 from rfl, show (101 : Int32) = nI 101 from rfl, misFour (z := 0) x km rfl (by omega) (by omega) (by omega) (by omega), bi_some]
      cases qn B 0 b e c
      · rw [if_pos n0, if_pos n0, cisName x kc (by omega), bi_some, show (97 : Int32) = nI 97 from rfl, show (115 : Int32) = nI 115 from rfl, show (121 : Int32) = nI 121 from rfl, misFour (z := 2) x km rfl (by omega) (by omega) (by omega) (by omega), bi_some]
        cases qn B 2 b e c
        · obtain ⟨f1, f2, f3, f4, f5⟩ := failN h
          rw [if_pos n0, if_pos n0, f1, bi_some, f2, bi_some]
          exact outF f4.uC' f5.uM' f3
        · rw [if_neg n1, if_neg n1]
          exact easyS h ht
      · rw [if_neg n1, if_neg n1]
        exact viceS h ht
    · have hl := lw_le (B := B) (b := b) (e := e) (c := c)
      rw [if_neg l4, if_neg l4, if_neg (nI_pos (by omega)), if_neg (nI_pos (by omega)), lawM (by omega)]
      exact lawS (by omega) h ht
  · have hk := kd_le (B := B) (b := b) (e := e) (c := c)
    rw [if_neg k6, if_neg k6, if_neg (nI_pos (by omega)), if_neg (nI_pos (by omega))]
    exact (childS (by omega) h ht).out
theorem loopT : ∀ (N i : Nat) (σc σm : Sg) (p b e c n : Nat), NS t B σc σm p b e c → TO σc (σm.1 1) n → i ≤ e → 201 - e < N → ∃ r υc υm, lp_ C8_tells_3_16 (fun _ _ => none) N σc (nI i) = some (r, υc) ∧ lp_ M_church_29 (fun _ => none) N σm = M_church_50 υm ∧ ag uC σc υc ∧ ag uM σm υm ∧ ((r = m1 ∧ rd_ υm 0 11 = nI 0 ∧ ∃ n', TO υc (υm.1 1) n') ∨ (FS t B υc υm ∧ r = rd_ υc 20 5)) := by
  intro N
  induction N with
  | zero => intro i σc σm p b e c n h ht hi hN; omega
  | succ N ih =>
    intro i σc σm p b e c n h ht hi hN
    have hl := h.2.1.2.2.2.le
    have h200 := h.1.1
    have eC : ∀ i, lp_ C8_tells_3_16 (fun _ _ => none) (N + 1) σc (nI i) = C8_tells_3_16 (lp_ C8_tells_3_16 (fun _ _ => none) N) σc (nI i) := fun _ => rfl
    have eM : lp_ M_church_29 (fun _ => none) (N + 1) σm = M_church_29 (lp_ M_church_29 (fun _ => none) N) σm := rfl
    rw [eC, eM]
    unfold C8_tells_3_16 M_church_29
    rw [if_neg (show ¬ (200 : Int32) < nI i from nI_nlt (a := 200) (by omega) (by omega)), h.2.2.2.1, if_neg m1_nle, h.2.1.2.2.1, h.2.2.2.2, if_pos (show nI 0 = 0 from rfl), h.2.2.1.2.2.1]
    by_cases c0 : c = 0
    · have cz : nI c = 0 := by rw [c0]; rfl
      rw [if_pos cz, if_pos cz]
      exact ⟨m1, σc, σm, rfl, rfl, ag.rf, ag.rf, Or.inl ⟨rfl, h.2.2.2.2, n, ht⟩⟩
    · have cz : ¬ nI c = 0 := nI_ne0 (by omega) (by omega)
      obtain ⟨υc, υm, o1, o2, o3, o4, o5⟩ := tellS h ht
      rw [if_neg cz, if_neg cz, o1, bi_some, o2, bi_some, lt_eq, show (1 : Int32) = nI 1 from rfl, nI_add]
      rcases o5 with ⟨p', b', e', c', n', k1, k2, k3⟩ | k
      · have hl2 := k1.2.1.2.2.2.le
        obtain ⟨r, ζc, ζm, x1, x2, x3, x4, x5⟩ := ih (i + 1) υc υm p' b' e' c' n' k1 k3 (by omega) (by omega)
        exact ⟨r, ζc, ζm, x1, x2, o3.tr x3, o4.tr x4, x5⟩
      · obtain ⟨N', rfl⟩ : ∃ N', N = N' + 1 := ⟨N - 1, by omega⟩
        refine ⟨rd_ υc 20 5, υc, υm, ?_, ?_, o3, o4, Or.inr ⟨k, rfl⟩⟩
        · show C8_tells_3_16 _ υc (nI (i + 1)) = _
          obtain ⟨x0, kc, ⟨p2, b2, e2, c2, km, f1⟩, f2⟩ := k
          have := km.2.2.2.1.le
          have := x0.1
          unfold C8_tells_3_16
          by_cases q : (200 : Int32) < nI (i + 1)
          · rw [if_pos q]
          · rw [if_neg q, if_pos (show 0 ≤ rd_ υc 20 5 by rw [f1]; exact nI_pos' (by omega))]
        · show M_church_29 _ υm = _
          unfold M_church_29
          rw [k.2.2.2, if_neg (by decide)]
end TELL
/-! the church as at first -/
theorem first3 (σ : Sg) : C1_beAsAtFirst_3_0 σ = some ((), wr_ (wr_ (wr_ (st_ (st_ σ 6 (fl lfA (σ.1 6) 4)) 9 (fl (fun _ => nI 50) (σ.1 9) 8)) 3 2 (nI 0)) 3 3 (nI 0)) 3 4 (nI 0)) := by
  have h2 : ∀ τ : Sg, lp_ C1_beAsAtFirst_3_26 (fun _ _ => none) FU τ (nI 0) = some ((), wr_ (wr_ (wr_ (st_ τ 9 (fl (fun _ => nI 50) (τ.1 9) 8)) 3 2 (nI 0)) 3 3 (nI 0)) 3 4 (nI 0)) := by
    intro τ
    have := lg2 (F := C1_beAsAtFirst_3_26) (z := fun _ _ => none) 8 (fun i => st_ τ 9 (fl (fun _ => nI 50) (τ.1 9) i)) (fun i => nI i) (some ((), wr_ (wr_ (wr_ (st_ τ 9 (fl (fun _ => nI 50) (τ.1 9) 8)) 3 2 (nI 0)) 3 3 (nI 0)) 3 4 (nI 0))) ?_ ?_ (FU_gt (by omega))
    · simp only [fl_0, st_self] at this
      exact this
    · intro K i hi
      unfold C1_beAsAtFirst_3_26
      simp (disch := omega) only [lit, nI_leI, if_neg, in_nI, gd_tt, nI_clamp, lt_eq, nI_add, wr_st]
      exact congrArg (fun q => K (st_ τ 9 q) (nI (i + 1))) (fl_s (fun _ => nI 50) (τ.1 9) i)
    · intro K
      unfold C1_beAsAtFirst_3_26
      simp only [lit, Int32.le_refl, if_true, lt_eq]
  unfold C1_beAsAtFirst_3_0
  have := lg2 (F := C1_beAsAtFirst_3_2) (z := fun _ _ => none) 4 (fun i => st_ σ 6 (fl lfA (σ.1 6) i)) (fun i => nI i) (some ((), wr_ (wr_ (wr_ (st_ (st_ σ 6 (fl lfA (σ.1 6) 4)) 9 (fl (fun _ => nI 50) (σ.1 9) 8)) 3 2 (nI 0)) 3 3 (nI 0)) 3 4 (nI 0))) ?_ ?_ (FU_gt (by omega))
  · simp only [fl_0, st_self] at this
    exact this
  · intro K i hi
    unfold C1_beAsAtFirst_3_2
    simp (disch := omega) only [lit, nI_leI, if_neg, in_nI, gd_tt, nI_clamp, lt_eq, nI_add, wr_st]
    rw [fl_s]
  · intro K
    unfold C1_beAsAtFirst_3_2
    simp only [lit, Int32.le_refl, if_true, h2]
    rw [st_k (by omega)]
def fv (g : Nat → Int32) (i : Nat) : Nat → Int32 := fun j => if 8 ≤ j ∧ j < 8 + i then nI 50 else g j
theorem fv_0 (g : Nat → Int32) : fv g 0 = g := by
  funext j
  unfold fv
  rw [if_neg (by omega)]
theorem fv_s (g : Nat → Int32) (i : Nat) : upd (fv g i) (8 + i) (nI 50) = fv g (i + 1) := by
  funext j
  unfold upd fv
  by_cases c : j = 8 + i
  · rw [if_pos c, if_pos (by omega)]
  · rw [if_neg c]
    by_cases d : 8 ≤ j ∧ j < 8 + i
    · rw [if_pos d, if_pos (by omega)]
    · rw [if_neg d, if_neg (by omega)]
def bgR (z : Int32) (g : Nat → Int32) : Nat → Int32 := fv (upd (upd (upd (upd (upd (fl (fun _ => nI 0) g 64) 2 z) 3 (nI 2)) 4 (nI 1)) 5 (nI 9)) 6 (nI 20)) 8
theorem mbegins (σ : Sg) : M_begins_0 σ = some ((), st_ σ 1 (bgR (rd_ σ 1 2) (σ.1 1))) := by
  have h2 : ∀ τ : Sg, lp_ M_begins_68 (fun _ _ => none) FU τ (nI 0) = some ((), st_ τ 1 (fv (τ.1 1) 8)) := by
    intro τ
    have := lg2 (F := M_begins_68) (z := fun _ _ => none) 8 (fun i => st_ τ 1 (fv (τ.1 1) i)) (fun i => nI i) (some ((), st_ τ 1 (fv (τ.1 1) 8))) ?_ ?_ (FU_gt (by omega))
    · simp only [fv_0, st_self] at this
      exact this
    · intro K i hi
      unfold M_begins_68
      simp (disch := omega) only [lit, nI_leI, if_neg, in_nI, gd_tt, nI_clamp, lt_eq, nI_add, wr_st]
      rw [fv_s]
    · intro K
      unfold M_begins_68
      simp only [lit, Int32.le_refl, if_true]
  unfold M_begins_0
  rw [lt_eq]
  generalize rd_ σ 1 2 = z
  have := lg3 (F := M_begins_9) (z := fun _ _ _ => none) 64 (fun i => st_ σ 1 (fl (fun _ => nI 0) (σ.1 1) i)) (fun _ => z) (fun i => nI i) (some ((), st_ σ 1 (bgR z (σ.1 1)))) ?_ ?_ (FU_gt (by omega))
  · simp only [fl_0, st_self] at this
    exact this
  · intro K i hi
    unfold M_begins_9
    simp (disch := omega) only [lit, nI_leI, if_neg, in_nI, gd_tt, nI_clamp, lt_eq, nI_add, wr_st]
    exact congrArg (fun q => K (st_ σ 1 q) z (nI (i + 1))) (fl_s (fun _ => nI 0) (σ.1 1) i)
  · intro K
    unfold M_begins_9
    simp only [lit, Int32.le_refl, if_true, lt_eq, wr_st, h2, st_same, st_st]
    rfl
theorem lfA_lt {k : Nat} (h : k < 4) : lfA k = nI (if k = 0 then 2 else if k = 1 then 1 else if k = 2 then 9 else 20) := by
  have : k = 0 ∨ k = 1 ∨ k = 2 ∨ k = 3 := by omega
  rcases this with rfl | rfl | rfl | rfl <;> rfl
theorem bgR_law {z : Int32} {g : Nat → Int32} {i : Nat} (h : i < 4) : bgR z g (3 + i) = lfA i := by
  have : i = 0 ∨ i = 1 ∨ i = 2 ∨ i = 3 := by omega
  rcases this with rfl | rfl | rfl | rfl <;> simp [bgR, fv, upd, fl] <;> rfl
theorem bgR_v {z : Int32} {g : Nat → Int32} {i : Nat} (h : i < 8) : bgR z g (8 + i) = nI 50 := by
  unfold bgR fv
  rw [if_pos (by omega)]
theorem bgR_z {z : Int32} {g : Nat → Int32} : bgR z g 2 = z := by simp [bgR, fv, upd, fl]
theorem bgR_0 {z : Int32} {g : Nat → Int32} {i : Nat} (h : i = 0 ∨ i = 1 ∨ i = 7) : bgR z g i = nI 0 := by
  rcases h with rfl | rfl | rfl <;> simp [bgR, fv, upd, fl]
theorem gr_bgR {z : Int32} {g : Nat → Int32} : gr (bgR z g) 0 := by
  refine ⟨bgR_0 (Or.inl rfl), by omega, fun i hi => ?_, ⟨0, by omega, bgR_0 (Or.inr (Or.inr rfl))⟩, fun i hi => ⟨50, by omega, bgR_v hi⟩, fun o ho => absurd ho (by omega)⟩
  rw [bgR_law hi, lfA_lt hi]
  refine ⟨_, ?_, rfl⟩
  have : i = 0 ∨ i = 1 ∨ i = 2 ∨ i = 3 := by omega
  rcases this with rfl | rfl | rfl | rfl <;> decide
section CHURCH
variable {σc σm : Sg}
def xC (k j : Nat) : Prop := uC k j ∨ k = 1 ∨ k = 4 ∨ k = 7 ∨ (34 ≤ k ∧ k ≤ 41) ∨ (k = 20 ∧ j = 0) ∨ (k = 0 ∧ j = 10)
def xM (k j : Nat) : Prop := uM k j ∨ k = 4 ∨ (k = 0 ∧ (j = 6 ∨ j = 15))
def yC (k j : Nat) : Prop := uC k j ∨ (k = 20 ∧ j = 0)
def yM (k j : Nat) : Prop := (k = 1 ∧ 64 ≤ j) ∨ k = 4 ∨ (k = 0 ∧ 6 ≤ j ∧ j ≤ 11)
theorem eq_church (h : R σc σm) : eqv (C_church_0 σc) (M_church_0 σm) := by
  obtain ⟨⟨n, ha⟩, hK, ⟨t, ht, e1, e2, hB0⟩, hW, hS, hH, hD⟩ := id h
  have hB' : ∃ B : Nat → Nat, ∀ i, i < t → B i < 256 ∧ rd_ σm 5 i = nI (B i) ∧ rd_ σc 21 i = sgb (B i) := by
    refine ⟨fun i => if q : i < t then Classical.choose (hB0 i q) else 0, fun i hi => ?_⟩
    have := Classical.choose_spec (hB0 i hi)
    simp only [dif_pos hi]
    exact this
  obtain ⟨B, hB⟩ := hB'
  have x0 : TX t B σc σm := ⟨ht, e1, e2, hB⟩
  unfold C_church_0 M_church_0
  rw [first3, bi_some, lt_eq, copyRow_1_4, bi_some, mbegins, bi_some, lt_eq, lt_eq]
  -- the starts
  have ac1 : ag uC σc (wr_ (wr_ (wr_ (st_ (st_ σc 6 (fl lfA (σc.1 6) 4)) 9 (fl (fun _ => nI 50) (σc.1 9) 8)) 3 2 (nI 0)) 3 3 (nI 0)) 3 4 (nI 0)) := ((((ag.rf.st (fun j => Or.inl (Or.inr (Or.inl rfl)))).st (fun j => Or.inl (Or.inr (Or.inr (Or.inl rfl))))).wr (Or.inl rfl)).wr (Or.inl rfl)).wr (Or.inl rfl)
  have c32 : rd_ (wr_ (wr_ (wr_ (st_ (st_ σc 6 (fl lfA (σc.1 6) 4)) 9 (fl (fun _ => nI 50) (σc.1 9) 8)) 3 2 (nI 0)) 3 3 (nI 0)) 3 4 (nI 0)) 3 2 = nI 0 := by rw [rd_j (by omega), rd_j (by omega), rd_same]
  have c33 : rd_ (wr_ (wr_ (wr_ (st_ (st_ σc 6 (fl lfA (σc.1 6) 4)) 9 (fl (fun _ => nI 50) (σc.1 9) 8)) 3 2 (nI 0)) 3 3 (nI 0)) 3 4 (nI 0)) 3 3 = nI 0 := by rw [rd_j (by omega), rd_same]
  have c34 : rd_ (wr_ (wr_ (wr_ (st_ (st_ σc 6 (fl lfA (σc.1 6) 4)) 9 (fl (fun _ => nI 50) (σc.1 9) 8)) 3 2 (nI 0)) 3 3 (nI 0)) 3 4 (nI 0)) 3 4 = nI 0 := rd_same _ _ _ _
  have c6 : ∀ i, i < 4 → rd_ (wr_ (wr_ (wr_ (st_ (st_ σc 6 (fl lfA (σc.1 6) 4)) 9 (fl (fun _ => nI 50) (σc.1 9) 8)) 3 2 (nI 0)) 3 3 (nI 0)) 3 4 (nI 0)) 6 i = lfA i := fun i hi => by
    rw [rd_k (by omega), rd_k (by omega), rd_k (by omega), rd_stk (by omega), rd_st]; exact if_pos hi
  have c9 : ∀ i, i < 8 → rd_ (wr_ (wr_ (wr_ (st_ (st_ σc 6 (fl lfA (σc.1 6) 4)) 9 (fl (fun _ => nI 50) (σc.1 9) 8)) 3 2 (nI 0)) 3 3 (nI 0)) 3 4 (nI 0)) 9 i = nI 50 := fun i hi => by
    rw [rd_k (by omega), rd_k (by omega), rd_k (by omega), rd_st]; exact if_pos hi
  generalize wr_ (wr_ (wr_ (st_ (st_ σc 6 (fl lfA (σc.1 6) 4)) 9 (fl (fun _ => nI 50) (σc.1 9) 8)) 3 2 (nI 0)) 3 3 (nI 0)) 3 4 (nI 0) = υ at ac1 c32 c33 c34 c6 c9 ⊢
  have ez : rd_ υ 1 5 = rd_ σm 1 2 := by rw [ac1.1 _ _ (by unfold uC; omega)]; exact ha.2.2.2.2.1
  rw [rd_stk (show ¬ 1 = 4 by omega), st_k (show ¬ 1 = 4 by omega)]
  unfold C8_tells_3_0
  rw [lt_eq, lt_eq, ez]
  have ac2 : ag uC σc (wr_ (wr_ (wr_ υ 3 5 (rd_ σm 1 2)) 20 3 0) 20 5 (-1)) := ((ac1.wr (Or.inl rfl)).wr (Or.inr (Or.inr (Or.inr (Or.inr ⟨rfl, by omega⟩))))).wr (Or.inr (Or.inr (Or.inr (Or.inr ⟨rfl, by omega⟩))))
  have to2 : TO (wr_ (wr_ (wr_ υ 3 5 (rd_ σm 1 2)) 20 3 0) 20 5 (-1)) (bgR (rd_ σm 1 2) (σm.1 1)) 0 := by
    refine ⟨gr_bgR, ?_, ?_, ?_, ?_, fun i hi => ?_, fun i hi => ?_, fun o ho => absurd ho (by omega)⟩
    · rw [rd_k (by omega), rd_k (by omega), rd_j (by omega), c32, bgR_0 (Or.inr (Or.inr rfl))]
    · rw [rd_k (by omega), rd_k (by omega), rd_j (by omega), c33, bgR_0 (Or.inl rfl)]
    · rw [rd_k (by omega), rd_k (by omega), rd_j (by omega), c34, bgR_0 (Or.inr (Or.inl rfl))]
    · rw [rd_k (by omega), rd_k (by omega), rd_same, bgR_z]
    · rw [rd_k (by omega), rd_k (by omega), rd_k (by omega), c6 i hi, bgR_law hi]
    · rw [rd_k (by omega), rd_k (by omega), rd_k (by omega), c9 i hi, bgR_v hi]
  have c203 : rd_ (wr_ (wr_ (wr_ υ 3 5 (rd_ σm 1 2)) 20 3 0) 20 5 (-1)) 20 3 = nI 0 := by rw [rd_j (by omega), rd_same]; rfl
  have c205 : rd_ (wr_ (wr_ (wr_ υ 3 5 (rd_ σm 1 2)) 20 3 0) 20 5 (-1)) 20 5 = m1 := by rw [rd_same]; rfl
  generalize wr_ (wr_ (wr_ υ 3 5 (rd_ σm 1 2)) 20 3 0) 20 5 (-1) = σ1 at ac2 to2 c203 c205 ⊢
  have am0 : ag (fun k j => k = 4 ∨ uM k j) σm (wr_ (wr_ (st_ (st_ σm 4 (fl (σm.1 1) (σm.1 4) 64)) 1 (bgR (rd_ σm 1 2) (σm.1 1))) 0 9 0) 0 11 0) := (((ag.rf.st (fun j => Or.inl (Or.inl rfl))).st (fun j => Or.inl (Or.inr (Or.inl rfl)))).wr (Or.inr (Or.inr ⟨rfl, by omega, by omega⟩))).wr (Or.inr (Or.inr ⟨rfl, by omega, by omega⟩))
  have r1 : (wr_ (wr_ (st_ (st_ σm 4 (fl (σm.1 1) (σm.1 4) 64)) 1 (bgR (rd_ σm 1 2) (σm.1 1))) 0 9 0) 0 11 0).1 1 = bgR (rd_ σm 1 2) (σm.1 1) := by rw [row_k (by omega), row_k (by omega), st_same]
  have r4 : ∀ i, i < 64 → rd_ (wr_ (wr_ (st_ (st_ σm 4 (fl (σm.1 1) (σm.1 4) 64)) 1 (bgR (rd_ σm 1 2) (σm.1 1))) 0 9 0) 0 11 0) 4 i = rd_ σm 1 i := fun i hi => by
    rw [rd_k (by omega), rd_k (by omega), rd_stk (by omega), rd_st]; exact if_pos hi
  have m9 : rd_ (wr_ (wr_ (st_ (st_ σm 4 (fl (σm.1 1) (σm.1 4) 64)) 1 (bgR (rd_ σm 1 2) (σm.1 1))) 0 9 0) 0 11 0) 0 9 = nI 0 := by rw [rd_j (by omega), rd_same]; rfl
  have m11 : rd_ (wr_ (wr_ (st_ (st_ σm 4 (fl (σm.1 1) (σm.1 4) 64)) 1 (bgR (rd_ σm 1 2) (σm.1 1))) 0 9 0) 0 11 0) 0 11 = nI 0 := by rw [rd_same]; rfl
  generalize wr_ (wr_ (st_ (st_ σm 4 (fl (σm.1 1) (σm.1 4) 64)) 1 (bgR (rd_ σm 1 2) (σm.1 1))) 0 9 0) 0 11 0 = σ2 at am0 r1 r4 m9 m11 ⊢
  have x1 : TX t B σ1 σ2 := x0.fr ac2 am0 (by unfold uC; omega) (fun j => by unfold uC; omega) (by unfold uM; omega) (fun j => by unfold uM; omega)
  obtain ⟨b, e, c, k⟩ := Tk_ex (t := t) (B := B) (p := 0) (by omega)
  obtain ⟨υc, a1, a2, a3⟩ := cstepT x1 c203 k
  obtain ⟨υm, b1, b2, b3⟩ := mnext x1 m9 k
  have a1' : ag fC' σ1 υc := a1.mo (fun k j q => ⟨q.1, q.2.1⟩)
  have b1' : ag fM' σ2 υm := b1.mo (fun k j q => ⟨q.1, q.2.1, by have := q.2.2; omega⟩)
  have ns : NS t B υc υm 0 b e c := ⟨x1.ff a1' b1', a2, b2, by rw [a1.1 _ _ (by unfold pC; omega)]; exact c205, by rw [b1.1 _ _ (by unfold pM; omega)]; exact m11⟩
  have to3 : TO υc (υm.1 1) 0 := by rw [row_fM b1', r1]; exact to2.ff a1'
  obtain ⟨r, ζc, ζm, l1, l2, l3, l4, l5⟩ := loopT FU 0 υc υm 0 b e c 0 ns to3 (by omega) (by unfold FU; omega)
  rw [a3, bi_some, b3, bi_some, show (0 : Int32) = nI 0 from rfl, l1, l2, bi_some, lt_eq]
  have ac3 : ag uC σc ζc := (ac2.tr a1'.uC').tr l3
  have am3 : ag (fun k j => k = 4 ∨ uM k j) σm ζm := (am0.tr (b1'.mo (fun _ _ q => Or.inr (fM_uM q)))).tr (l4.mo (fun _ _ q => Or.inr q))
  unfold M_church_50
  rw [lt_eq, rd_j (show ¬ 11 = 6 by omega), show (0 : Int32) = nI 0 from rfl]
  rcases l5 with ⟨rfl, l6, n', l7⟩ | ⟨l6, l7⟩
  · have hn' := l7.1.2.1
    rw [l6, if_pos (show nI 0 = nI 0 from rfl), if_pos (show m1 < nI 0 from m1_neg), become_1_3, bi_some, lt_eq, lt_eq]
    have a : ag xC σc (wr_ (bec_1_3 (wr_ ζc 20 0 (nI 0))) 0 10 (nI 0)) := (((ac3.mo (S' := xC) (fun _ _ q => Or.inl q)).wr (by unfold xC; omega)).tr ((bec_ag_1_3 _).mo (S' := xC) (fun k j q => by unfold sB_1_3 at q; unfold xC; omega))).wr (by unfold xC; omega)
    have b' : ag xM σm (wr_ (wr_ ζm 0 6 (nI 0)) 0 15 (nI 0)) := ((am3.mo (S' := xM) (fun _ _ q => q.elim (fun z => Or.inr (Or.inl z)) (fun z => Or.inl z))).wr (by unfold xM; omega)).wr (by unfold xM; omega)
    have rw1 : (wr_ (wr_ ζm 0 6 (nI 0)) 0 15 (nI 0)).1 1 = ζm.1 1 := by rw [row_k (by omega), row_k (by omega)]
    have hrc : rc (wr_ (bec_1_3 (wr_ ζc 20 0 (nI 0))) 0 10 (nI 0)) 1 4 7 (fun o => 34 + o) (ζm.1 1) n' := by
      have q1 : rc (wr_ ζc 20 0 (nI 0)) 3 6 9 (fun o => 34 + (16 + o)) (ζm.1 1) n' := rc_ag l7.2 hn' (S := fun k _ => k = 20) (ag.rf.wr rfl) (fun j => by omega) (fun j => by omega) (fun j => by omega) (fun o j ho => by omega)
      exact rc_ag (bec_rc_1_3 hn' q1) hn' (S := fun k _ => k = 0) (ag.rf.wr rfl) (fun j => by omega) (fun j => by omega) (fun j => by omega) (fun o j ho => by omega)
    refine ⟨rd_ (wr_ (wr_ ζm 0 6 (nI 0)) 0 15 (nI 0)) 1 0, _, _, ?_, rfl, ⟨n', by rw [rw1]; exact l7.1, by rw [rw1]; exact hrc⟩, ?_, ?_, ?_, ?_, ?_, ?_⟩
    · rw [hrc.2.1, rd_row, rw1]
    · exact hK.fr a b' (by unfold xC uC; omega) (fun j => by unfold xC uC; omega) (fun j => by unfold xC uC; omega) (fun j => by unfold xC uC; omega) (fun o j ho => by unfold xC uC; omega) (by unfold xM uM; omega) (fun j _ => by unfold xM uM; omega)
    · refine ⟨0, by omega, ?_, ?_, fun i hi => absurd hi (by omega)⟩
      · rw [rd_k (by omega), (bec_ag_1_3 _).1 _ _ (by unfold sB_1_3; omega), rd_same]
      · rw [rd_j (by omega), rd_same]
    · obtain ⟨k0, w1, w2, w3, w4⟩ := hW
      refine ⟨0, by omega, rd_same _ _ _ _, rd_same _ _ _ _, fun i hi => ?_⟩
      rw [a.1 _ _ (by unfold xC uC; omega), b'.1 _ _ (by unfold xM uM; omega)]
      exact w4 i hi
    · exact hS.fr a b' (fun j => by unfold xC uC; omega) (fun j => by unfold xC uC; omega) (fun j => by unfold xM uM; omega) (fun j => by unfold xM uM; omega) (fun j => by unfold xM uM; omega)
    · exact hH.fr a b' (fun j => by unfold xC uC; omega) (fun j => by unfold xC uC; omega) (fun j => by unfold xC uC; omega) (fun j => by unfold xM uM; omega) (fun j => by unfold xM uM; omega) (fun j => by unfold xM uM; omega)
    · exact hD.fr a b' (by unfold xC uC; omega) (fun j => by unfold xC uC; omega) (by unfold xM uM; omega) (fun j => by unfold xM uM; omega)
  · obtain ⟨-, -, ⟨p2, b2, e2, c2, km, f1⟩, f2⟩ := id l6
    have hl := km.2.2.2.1.le
    have er : r = nI b2 := l7.trans f1
    subst er
    rw [f2, if_neg (show ¬ nI 1 = nI 0 by decide), if_neg (show ¬ nI b2 < nI 0 from nI_n0 (by omega)), copyRow_4_1, bi_some]
    have a : ag yC σc (wr_ ζc 20 0 (nI 0)) := (ac3.mo (S' := yC) (fun _ _ q => Or.inl q)).wr (Or.inr ⟨rfl, rfl⟩)
    have q8 : rd_ (st_ (wr_ ζm 0 6 (nI 0)) 1 (fl ((wr_ ζm 0 6 (nI 0)).1 4) ((wr_ ζm 0 6 (nI 0)).1 1) 64)) 0 8 = nI b2 := by rw [rd_stk (by omega), rd_j (by omega)]; exact km.1
    have b' : ag yM σm (st_ (wr_ ζm 0 6 (nI 0)) 1 (fl ((wr_ ζm 0 6 (nI 0)).1 4) ((wr_ ζm 0 6 (nI 0)).1 1) 64)) := by
      refine ⟨fun k j q => ?_, fun i => am3.2 i⟩
      by_cases k1 : k = 1
      · subst k1
        have hj : j < 64 := by unfold yM at q; omega
        rw [rd_st, fl, if_pos hj]
        show rd_ (wr_ ζm 0 6 (nI 0)) 4 j = _
        rw [rd_k (by omega), l4.1 _ _ (by unfold uM; omega), b1.1 _ _ (by unfold pM; omega)]
        exact r4 j hj
      · rw [rd_stk k1, rd_wr, if_neg (by unfold yM at q; omega)]
        exact am3.1 k j (by unfold yM at q; unfold uM; omega)
    refine ⟨(-100 : Int32) - nI b2, _, _, rfl, by rw [q8], ⟨n, ha.fr a b' ?_ ?_ ?_ ?_ ?_⟩, ?_, ?_, ?_, ?_, ?_, ?_⟩
    · exact fun j => by unfold yC uC; omega
    · exact fun j => by unfold yC uC; omega
    · exact fun j => by unfold yC uC; omega
    · exact fun o j ho => by unfold yC uC; omega
    · exact fun j hj => by unfold yM; omega
    · exact hK.fr a b' (by unfold yC uC; omega) (fun j => by unfold yC uC; omega) (fun j => by unfold yC uC; omega) (fun j => by unfold yC uC; omega) (fun o j ho => by unfold yC uC; omega) (by unfold yM; omega) (fun j _ => by unfold yM; omega)
    · refine ⟨0, by omega, rd_same _ _ _ _, ?_, fun i hi => absurd hi (by omega)⟩
      rw [rd_stk (by omega), rd_same]
    · exact hW.fr a b' (by unfold yC uC; omega) (fun j => by unfold yC uC; omega) (by unfold yM; omega) (fun j => by unfold yM; omega)
    · exact hS.fr a b' (fun j => by unfold yC uC; omega) (fun j => by unfold yC uC; omega) (fun j => by unfold yM; omega) (fun j => by unfold yM; omega) (fun j => by unfold yM; omega)
    · exact hH.fr a b' (fun j => by unfold yC uC; omega) (fun j => by unfold yC uC; omega) (fun j => by unfold yC uC; omega) (fun j => by unfold yM; omega) (fun j => by unfold yM; omega) (fun j => by unfold yM; omega)
    · exact hD.fr a b' (by unfold yC uC; omega) (fun j => by unfold yC uC; omega) (by unfold yM; omega) (fun j => by unfold yM; omega)
end CHURCH
