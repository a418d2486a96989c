/-! luck -/
theorem N_cong {g h : Nat → Int32} {i : Nat} (e : g i = h i) : N_ g i = N_ h i := by unfold N_; rw [e]
theorem tG_cong {g h : Nat → Int32} {o : Nat} (hs : N_ h (16 + 6 * o + 5) < 8) (e : ∀ i, i < 16 → ¬ i = 2 → g i = h i) (l : ∀ w, w < 6 → g (16 + 6 * o + w) = h (16 + 6 * o + w)) : tG g o = tG h o := by
  have l0 : N_ g (16 + 6 * o) = N_ h (16 + 6 * o) := N_cong (l 0 (by omega))
  unfold tG mT
  rw [e 7 (by omega) (by omega), e 1 (by omega) (by omega), N_cong (e 3 (by omega) (by omega)), N_cong (e 4 (by omega) (by omega)), l0, N_cong (l 1 (by omega)), N_cong (l 2 (by omega)), N_cong (l 4 (by omega)), N_cong (l 5 (by omega))]
  dsimp only
  rw [N_cong (e (8 + N_ h (16 + 6 * o + 5)) (by omega) (by omega))]
theorem dd_cong {g h : Nat → Int32} {o : Nat} (e1 : g (16 + 6 * o + 1) = h (16 + 6 * o + 1)) (e3 : g (16 + 6 * o + 3) = h (16 + 6 * o + 3)) : dd g o = dd h o := by
  unfold dd
  rw [N_cong e1, N_cong e3]
theorem ddO_cong {g h : Nat → Int32} {o n : Nat} (hh : gr h n) (ho : o < n) (e : ∀ i, i < 16 → ¬ i = 2 → g i = h i) (l : ∀ w, w < 6 → g (16 + 6 * o + w) = h (16 + 6 * o + w)) : dd (gO n g) o = dd (gO n h) o := by
  refine dd_cong ?_ ?_
  · rw [gO_t ho, gO_t ho, tG_cong (by have := (lvG hh ho).1; omega) e l]
  · rw [gO_w (by omega), gO_w (by omega), l 3 (by omega)]
def sS (D : Nat → Nat) : Nat → Nat
  | 0 => 0
  | i + 1 => sS D i + D i
theorem sF_sS (g : Nat → Int32) (n : Nat) : sF g n = sS (dd g) n := by
  induction n with
  | zero => rfl
  | succ n ih => show sF g n + dd g n = sS (dd g) n + dd g n; rw [ih]
theorem sS_cong {D D' : Nat → Nat} {n : Nat} (h : ∀ i, i < n → D i = D' i) : sS D n = sS D' n := by
  induction n with
  | zero => rfl
  | succ n ih => show sS D n + D n = sS D' n + D' n; rw [ih (fun i hi => h i (by omega)), h n (by omega)]
theorem sS_one {D D' : Nat → Nat} {n o : Nat} (ho : o < n) (h : ∀ i, i < n → ¬ i = o → D i = D' i) : sS D n + D' o = sS D' n + D o := by
  induction n with
  | zero => omega
  | succ n ih =>
    show sS D n + D n + D' o = sS D' n + D' n + D o
    by_cases c : o = n
    · subst c
      rw [sS_cong (D := D) (D' := D') (fun i hi => h i (by omega) (by omega))]
      omega
    · have := ih (by omega) (fun i hi => h i (by omega))
      have e := h n (by omega) (fun q => c q.symm)
      omega
theorem sS_le {D : Nat → Nat} {n B : Nat} (h : ∀ i, i < n → D i ≤ B) : sS D n ≤ n * B := by
  induction n with
  | zero => exact Nat.zero_le _
  | succ n ih =>
    show sS D n + D n ≤ _
    have h1 := ih (fun i hi => h i (by omega))
    have h2 := h n (by omega)
    rw [Nat.succ_mul]
    omega
def zN (n s : Nat) (z : Int32) : Int32 := if n = 0 then z else if s ≤ dr (z2 z) % 100 then z2 z else z3 z
def lkB (g : Nat → Int32) (n s : Nat) (z : Int32) : Bool := if n = 0 then false else if s ≤ dr (z2 z) % 100 then false else decide (dd (gO n (upd g (16 + 6 * (dr (z1 z) % n) + 5) (nI (dr (z3 z) % 8)))) (dr (z1 z) % n) < dd (gO n g) (dr (z1 z) % n))
def zS (n s : Nat) (z : Int32) : Nat → Int32
  | 0 => z
  | i + 1 => zN n s (zS n s z i)
def lS (g : Nat → Int32) (n s : Nat) (z : Int32) : Nat → Nat
  | 0 => 0
  | i + 1 => lS g n s z i + if lkB g n s (zS n s z i) = true then 1 else 0
def sL (k j : Nat) : Prop := s58 k j ∨ (k = 1 ∧ j = 5)
section LUCK
variable {σc σm : Sg} {n s : Nat}
theorem lucky {τ : Sg} {k j : Nat} (ha : RA σc σm n) (a : ag sL σc τ) (hk : k < n) (hj : j < 8) : ∃ τ', ag s58 τ τ' ∧ C_isLucky_0 τ (nI (k * 8 + j)) = some (if dd (gO n (upd (σm.1 1) (16 + 6 * k + 5) (nI j))) k < dd (gO n (σm.1 1)) k then nI 1 else nI 0, τ') := by
  have hn := ha.1.2.1
  have hg := ha.1
  obtain ⟨b, -, -, -, -, -, h5⟩ := lvG hg hk
  dsimp only at h5
  have e : cE τ (σm.1 1) := by
    obtain ⟨e1, e2, e3⟩ := ha.cE
    exact ⟨by rw [a.1 _ _ (by unfold sL s58; omega)]; exact e1, fun q hq => by rw [a.1 _ _ (by unfold sL s58; omega)]; exact e2 q hq, fun q hq => by rw [a.1 _ _ (by unfold sL s58; omega)]; exact e3 q hq⟩
  have l : cL τ k (σm.1 1) k := fun w hw => by rw [a.1 _ _ (by unfold sL s58; omega)]; exact ha.cL hk w hw
  have y : rd_ τ 1 4 = σm.1 1 1 := by rw [a.1 _ _ (by unfold sL s58; omega)]; exact ha.yr1
  have c3 : rd_ τ 1 3 = nI n := by rw [a.1 _ _ (by unfold sL s58; omega)]; exact ha.cnt
  have f1 := cfarWith (w := 5) (v := j) (m := 1) hg hk e l y (by omega) (show j ≤ 7 by omega) (by omega)
  have a1 := fwS_ag (σ := τ) (g := σm.1 1) (n := n) (o := k) (w := 5) (v := j) (m := 1)
  have f2 := cfarWith (σ := fwS τ (σm.1 1) n k 5 j 1) (w := 5) (v := N_ (σm.1 1) (16 + 6 * k + 5)) (m := 1) hg hk (cE_ag e a1) (cL_ag l (by omega) a1) (by rw [a1.1 1 4 (by unfold s58; omega)]; exact y) (by omega) (show _ ≤ 7 from b.2.2.2.2.2) (by omega)
  have a2 := fwS_ag (σ := fwS τ (σm.1 1) n k 5 j 1) (g := σm.1 1) (n := n) (o := k) (w := 5) (v := N_ (σm.1 1) (16 + 6 * k + 5)) (m := 1)
  rw [up_self h5] at f2
  have e5 : rd_ (fwS τ (σm.1 1) n k 5 j 1) (34 + k) 5 = nI (N_ (σm.1 1) (16 + 6 * k + 5)) := by rw [a1.1 _ _ (by unfold s58; omega), l 5 (by omega)]; exact h5
  have d1 := dd_le (gr_gO (gr_upd (o := k) (w := 5) (v := j) hg (by omega) (show j ≤ 7 by omega))) hk
  have d2 := dd_le (gr_gO hg) hk
  refine ⟨_, a1.tr a2, ?_⟩
  unfold C_isLucky_0
  have q1 : nI (k * 8 + j) / 8 = nI k := by
    rw [show (8 : Int32) = nI 8 from rfl, pk_div (by omega) (by omega) (by omega)]
    exact congrArg nI (by omega)
  have q2 : nI (k * 8 + j) - nI (k * 8 + j) / 8 * 8 = nI j := by
    rw [show (8 : Int32) = nI 8 from rfl, pk_rem (by omega) (by omega) (by omega)]
    exact congrArg nI (by omega)
  rw [if_pos (nI_pos' (by omega)), q2, q1, lifeY0 hn c3 hk, bi_some, on_S]
  simp (disch := omega) only [C_farSworn_0, lit, f1, bi_some, lf_tt, gd_tt, e5, f2]
  show (if nI (dd (gO n (σm.1 1)) k) ≤ nI (dd (gO n (upd (σm.1 1) (16 + 6 * k + 5) (nI j))) k) then _ else _) = _
  by_cases c : dd (gO n (upd (σm.1 1) (16 + 6 * k + 5) (nI j))) k < dd (gO n (σm.1 1)) k
  · rw [if_neg (nI_ge c (by omega)), if_pos c]
  · rw [if_pos (nI_le (by omega) (by omega)), if_neg c]
theorem luckStep {τ : Sg} (ha : RA σc σm n) (hs : s ≤ 99) (es : σm.1 1 6 = nI s) (a : ag sL σc τ) : ∃ r τ' τ2, C1_drawSlip_0 τ = some (r, τ') ∧ C_isLucky_0 τ' r = some (if lkB (σm.1 1) n s (rd_ τ 1 5) = true then nI 1 else nI 0, τ2) ∧ ag sL σc τ2 ∧ rd_ τ2 1 5 = zN n s (rd_ τ 1 5) := by
  have hn := ha.1.2.1
  have ec : rd_ τ 4 3 = nI s := by rw [a.1 _ _ (by unfold sL s58; omega)]; exact (ha.2.2.2.2.2.1 3 (by omega)).trans es
  have c3 : rd_ τ 1 3 = nI n := by rw [a.1 _ _ (by unfold sL s58; omega)]; exact ha.cnt
  by_cases h0 : n = 0
  · subst h0
    refine ⟨_, _, _, cslip0 c3, ?_, a, ?_⟩
    · unfold C_isLucky_0 lkB
      rw [if_neg (by decide), if_pos rfl]; rfl
    · unfold zN; rw [if_pos rfl]
  · by_cases c : s ≤ dr (z2 (rd_ τ 1 5)) % 100
    · refine ⟨_, _, wr_ τ 1 5 (z2 (rd_ τ 1 5)), cslip1 hn (by omega) c3 hs ec c, ?_, a.wr (Or.inr ⟨rfl, rfl⟩), ?_⟩
      · unfold C_isLucky_0 lkB
        rw [if_neg (by decide), if_neg h0, if_pos c]; rfl
      · rw [rd_same, zN, if_neg h0, if_pos c]
    · have bm := Nat.mod_lt (dr (z1 (rd_ τ 1 5))) (show n > 0 by omega)
      have b8 := Nat.mod_lt (dr (z3 (rd_ τ 1 5))) (show 8 > 0 by omega)
      have a' : ag sL σc (wr_ τ 1 5 (z3 (rd_ τ 1 5))) := a.wr (Or.inr ⟨rfl, rfl⟩)
      obtain ⟨τ2, a2, hl⟩ := lucky ha a' bm b8
      refine ⟨_, _, τ2, cslip2 hn (by omega) c3 hs ec (by omega), ?_, a'.tr (a2.mo (fun _ _ q => Or.inl q)), ?_⟩
      · rw [hl]
        unfold lkB
        rw [if_neg h0, if_neg c]
        simp only [decide_eq_true_eq]
      · rw [a2.1 _ _ (by unfold s58; omega), rd_same, zN, if_neg h0, if_neg c]
theorem cluck {m : Nat} (ha : RA σc σm n) (hs : s ≤ 99) (es : σm.1 1 6 = nI s) (h1 : 1 ≤ m) (h2 : m ≤ 30) : ∃ τ, ag s58 σc τ ∧ C_luck_0 σc (nI m) = some (nI (lS (σm.1 1) n s (rd_ σc 1 5) m), τ) := by
  simp (disch := omega) only [C_luck_0, lit, nI_ltI, if_neg, nI_leI, if_pos, lt_eq]
  have key := li5 (F := C_luck_26) (z := fun _ _ _ _ _ => none) m (fun i σ x1 x2 x3 x4 => ag sL σc σ ∧ rd_ σ 1 5 = zS n s (rd_ σc 1 5) i ∧ x1 = nI m ∧ x2 = rd_ σc 1 5 ∧ x3 = nI (lS (σm.1 1) n s (rd_ σc 1 5) i) ∧ x4 = nI i) (fun b => b.1 = nI (lS (σm.1 1) n s (rd_ σc 1 5) m) ∧ ag s58 σc b.2) σc (nI m) (rd_ σc 1 5) (nI 0) (nI 0) ⟨ag.rf, rfl, rfl, rfl, rfl, rfl⟩ ?_ ?_ (FU_gt (N := m) (by omega))
  · obtain ⟨⟨r, τ⟩, ⟨hb1, hb2⟩, hb⟩ := key
    dsimp only at hb1 hb2
    subst hb1
    exact ⟨τ, hb2, hb⟩
  · rintro K i τ x1 x2 x3 x4 hi ⟨a, ez, rfl, rfl, rfl, rfl⟩
    obtain ⟨r, τ', τ2, f1, f2, f3, f4⟩ := luckStep ha hs es a
    rw [ez] at f2 f4
    refine Or.inl ⟨τ2, nI m, rd_ σc 1 5, nI (lS (σm.1 1) n s (rd_ σc 1 5) (i + 1)), nI (i + 1), ⟨f3, f4, rfl, rfl, rfl, rfl⟩, ?_⟩
    unfold C_luck_26 C_luck_49
    rw [if_neg (nI_ge hi (by omega)), f1, bi_some, f2, bi_some, lS]
    cases lkB (σm.1 1) n s (zS n s (rd_ σc 1 5) i)
    · simp (disch := omega) only [Bool.false_eq_true, if_false, lit, if_true, lt_eq, nI_add, Nat.add_zero]
    · simp (disch := omega) only [if_true, lit, nI_eq, if_neg, lt_eq, nI_add]
  · rintro K τ x1 x2 x3 x4 ⟨a, ez, rfl, rfl, rfl, rfl⟩
    refine ⟨(nI (lS (σm.1 1) n s (rd_ σc 1 5) m), wr_ τ 1 5 (rd_ σc 1 5)), ⟨rfl, ?_⟩, ?_⟩
    rotate_left 1
    · unfold C_luck_26
      rw [if_pos (Int32.le_refl _), lt_eq]
    · refine ⟨fun k j hk => ?_, fun i => a.2 i⟩
      dsimp only
      rw [rd_wr]
      by_cases c : k = 1 ∧ j = 5
      · rw [if_pos c, c.1, c.2]
      · rw [if_neg c]; exact a.1 k j (fun q => by rcases q with q | q; exact hk q; exact c q)
theorem m59 {σ : Sg} (hg : gr (σ.1 1) n) : M_year_59 σ = some (sT (gO n (σ.1 1)) n, st_ σ 1 (gO n (σ.1 1))) := by
  have hg2 : gr ((st_ σ 1 (gO n (σ.1 1))).1 1) n := by rw [st_same]; exact gr_gO hg
  unfold M_year_59
  rw [mgoesOn hg, bi_some, mtraits hg2, bi_some, st_same]
theorem gr_z {g : Nat → Int32} {z : Int32} (h : gr g n) : gr (upd g 2 z) n := by
  obtain ⟨h1, h2, h3, h4, h5, h6⟩ := h
  refine ⟨(if_neg (by omega)).trans h1, h2, fun i hi => ?_, ?_, fun i hi => ?_, fun o ho w hw => ?_⟩
  · rw [upd, if_neg (by omega)]; exact h3 i hi
  · rw [upd, if_neg (by omega)]; exact h4
  · rw [upd, if_neg (by omega)]; exact h5 i hi
  · rw [upd, if_neg (by omega)]; exact h6 o ho w hw
theorem sFz {g : Nat → Int32} {z : Int32} (h : gr g n) : sF (gO n (upd g 2 z)) n = sF (gO n g) n := by
  rw [sF_sS, sF_sS]
  exact sS_cong (fun i hi => ddO_cong h hi (fun q _ h2 => if_neg h2) (fun w _ => if_neg (by omega)))
/-- the year as luck tries it -/
theorem mtry {σ : Sg} {g : Nat → Int32} {z : Int32} (hg : gr g n) (er : σ.1 1 = upd g 2 z) (hs : s ≤ 99) (es : g 6 = nI s) : ∃ r f, M_year_0 σ = some (r, st_ σ 1 f) ∧ gr f n ∧ f 2 = zN n s z ∧ (∀ j, 64 ≤ j → f j = g j) ∧ (sF f n < sF (gO n g) n ↔ lkB g n s z = true) := by
  have hn := hg.2.1
  have hgz : gr (σ.1 1) n := by rw [er]; exact gr_z hg
  have e0 : rd_ σ 1 0 = nI n := hgz.1
  have e2 : rd_ σ 1 2 = z := by rw [rd_row, er, upd, if_pos rfl]
  have e6 : rd_ σ 1 6 = nI s := by rw [rd_row, er, upd, if_neg (by omega)]; exact es
  have hhi : ∀ (h : Nat → Int32) j, 64 ≤ j → gO n h j = h j := fun h j hj => gN_hi hn hj 1
  by_cases h0 : n = 0
  · subst h0
    refine ⟨sT (gO 0 (σ.1 1)) 0, gO 0 (σ.1 1), ?_, gr_gO hgz, ?_, fun j hj => ?_, ?_⟩
    rotate_left 1
    · rw [gO_lo (by omega) (by omega), zN, if_pos rfl]; exact e2
    · rw [hhi _ j hj, er, upd, if_neg (by omega)]
    · rw [er, sFz hg, lkB, if_pos rfl]
      simp
    · rw [myear0 e0, m59 hgz]
  · by_cases c : s ≤ dr (z2 z) % 100
    · have hg2 : gr ((wr_ σ 1 2 (z2 z)).1 1) n := by rw [row_same]; exact gr_z hgz
      refine ⟨sT (gO n (upd g 2 (z2 z))) n, gO n (upd g 2 (z2 z)), ?_, gr_gO (gr_z hg), ?_, fun j hj => ?_, ?_⟩
      rotate_left 1
      · rw [gO_lo (by omega) (by omega), zN, if_neg h0, if_pos c, upd, if_pos rfl]
      · rw [hhi _ j hj, upd, if_neg (by omega)]
      · rw [sFz hg, lkB, if_neg h0, if_pos c]
        simp
      · rw [myear1 hn (by omega) e0 hs e6 (by rw [e2]; exact c), e2, m59 hg2, row_same, er, upd_upd, wr_as_st, st_st]
    · have bm := Nat.mod_lt (dr (z1 z)) (show n > 0 by omega)
      have b8 := Nat.mod_lt (dr (z3 z)) (show 8 > 0 by omega)
      have hgu : gr (upd (upd g 2 (z3 z)) (16 + 6 * (dr (z1 z) % n) + 5) (nI (dr (z3 z) % 8))) n := gr_upd (gr_z hg) (by omega) (show _ ≤ 7 by omega)
      have er2 : (wr_ (wr_ σ 1 2 (z3 z)) 1 (16 + 6 * (dr (z1 z) % n) + 5) (nI (dr (z3 z) % 8))).1 1 = upd (upd g 2 (z3 z)) (16 + 6 * (dr (z1 z) % n) + 5) (nI (dr (z3 z) % 8)) := by
        rw [row_same, row_same, er, upd_upd]
      have hg2 : gr ((wr_ (wr_ σ 1 2 (z3 z)) 1 (16 + 6 * (dr (z1 z) % n) + 5) (nI (dr (z3 z) % 8))).1 1) n := by rw [er2]; exact hgu
      refine ⟨sT (gO n (upd (upd g 2 (z3 z)) (16 + 6 * (dr (z1 z) % n) + 5) (nI (dr (z3 z) % 8)))) n, gO n (upd (upd g 2 (z3 z)) (16 + 6 * (dr (z1 z) % n) + 5) (nI (dr (z3 z) % 8))), ?_, gr_gO hgu, ?_, fun j hj => ?_, ?_⟩
      rotate_left 1
      · rw [gO_lo (by omega) (by omega), zN, if_neg h0, if_neg c, upd, if_neg (by omega), upd, if_pos rfl]
      · rw [hhi _ j hj, upd, if_neg (by omega), upd, if_neg (by omega)]
      · have key := sS_one (D := dd (gO n (upd (upd g 2 (z3 z)) (16 + 6 * (dr (z1 z) % n) + 5) (nI (dr (z3 z) % 8))))) (D' := dd (gO n g)) bm (fun i hi hne => ddO_cong hg hi (fun q h1 h2 => by rw [upd, if_neg (by omega), upd, if_neg h2]) (fun w hw => by rw [upd, if_neg (by omega), upd, if_neg (by omega)]))
        have e3 : dd (gO n (upd (upd g 2 (z3 z)) (16 + 6 * (dr (z1 z) % n) + 5) (nI (dr (z3 z) % 8)))) (dr (z1 z) % n) = dd (gO n (upd g (16 + 6 * (dr (z1 z) % n) + 5) (nI (dr (z3 z) % 8)))) (dr (z1 z) % n) := by
          refine ddO_cong (gr_upd hg (by omega) (show _ ≤ 7 by omega)) bm (fun q h1 h2 => ?_) (fun w hw => ?_)
          · rw [upd, if_neg (by omega), upd, if_neg h2, upd, if_neg (by omega)]
          · unfold upd
            by_cases q : 16 + 6 * (dr (z1 z) % n) + w = 16 + 6 * (dr (z1 z) % n) + 5
            · rw [if_pos q, if_pos q]
            · rw [if_neg q, if_neg q, if_neg (by omega)]
        rw [e3] at key
        rw [sF_sS, sF_sS, lkB, if_neg h0, if_neg c, decide_eq_true_iff]
        omega
      · rw [myear2 hn (by omega) e0 hs e6 (by rw [e2]; omega), e2, m59 hg2, er2, wr_as_st, wr_as_st σ, st_st, st_st]
theorem mluck {m : Nat} (ha : RA σc σm n) (hs : s ≤ 99) (es : σm.1 1 6 = nI s) (h1 : 1 ≤ m) (h2 : m ≤ 30) : ∃ τ, ag sM σm τ ∧ M_luck_0 σm (nI m) = some (nI (lS (σm.1 1) n s (rd_ σm 1 2) m), τ) := by
  have hn := ha.1.2.1
  have hg := ha.1
  have hg2 : gr ((asd σm).1 1) n := by rw [asd_1]; exact hg
  have hg3 : gr ((st_ (asd σm) 1 (gO n (σm.1 1))).1 1) n := by rw [st_same]; exact gr_gO hg
  have hdue : sF (gO n (σm.1 1)) n ≤ 792 := by
    rw [sF_sS]
    have := sS_le (D := dd (gO n (σm.1 1))) (n := n) (B := 99) (fun i hi => dd_le (gr_gO hg) hi)
    omega
  simp (disch := omega) only [M_luck_0, lit, litL, mi1, bp_some, nI_eq, if_neg]
  rw [copyRow_1_3, bi_some, ← asd, mgoesOn hg2, bi_some, asd_1, mfars hg3, bi_some, lt_eq, st_same, rd_stk (by omega)]
  have e32 : rd_ (asd σm) 3 2 = rd_ σm 1 2 := by
    unfold asd; rw [rd_st]; rfl
  rw [e32]
  have key := li6 (F := M_luck_47) (z := fun _ _ _ _ _ _ => none) m (fun i σ x1 x2 x3 x4 x5 => ag aM σm σ ∧ σ.1 3 = fl (σm.1 1) (σm.1 3) 64 ∧ (∀ j, 64 ≤ j → σ.1 1 j = σm.1 1 j) ∧ x1 = nI m ∧ x2 = nI (sF (gO n (σm.1 1)) n) ∧ x3 = zS n s (rd_ σm 1 2) i ∧ x4 = nI (lS (σm.1 1) n s (rd_ σm 1 2) i) ∧ x5 = nI i) (fun b => b.1 = nI (lS (σm.1 1) n s (rd_ σm 1 2) m) ∧ ag sM σm b.2) (st_ (asd σm) 1 (gO n (σm.1 1))) (nI m) (nI (sF (gO n (σm.1 1)) n)) (rd_ σm 1 2) (nI 0) (nI 0) ⟨(asd_ag (fun j => by simp [aM, sM])).tr (ag.rf.st (fun j => Or.inl (Or.inr rfl))), ?_, ?_, rfl, rfl, rfl, rfl, rfl⟩ ?_ ?_ (FU_gt (N := m) (by omega))
  · obtain ⟨⟨r, τ⟩, ⟨hb1, hb2⟩, hb⟩ := key
    dsimp only at hb1 hb2
    subst hb1
    exact ⟨τ, hb2, hb⟩
  · rw [st_k (by omega)]; unfold asd; rw [st_same]
  · intro j hj; rw [st_same]; exact gN_hi (g := σm.1 1) hn hj 1
  · rintro K i τ x1 x2 x3 x4 x5 hi ⟨a, e3, ehi, rfl, rfl, rfl, rfl, rfl⟩
    have er : fl (τ.1 3) (τ.1 1) 64 = σm.1 1 := by
      funext j
      unfold fl
      by_cases c : j < 64
      · rw [if_pos c, e3, fl, if_pos c]
      · rw [if_neg c]; exact ehi j (by omega)
    obtain ⟨r, f, g1, g2, g3, g4, g5⟩ := mtry (σ := wr_ (st_ τ 1 (σm.1 1)) 1 2 (zS n s (rd_ σm 1 2) i)) (z := zS n s (rd_ σm 1 2) i) hg (by rw [row_same, st_same]) hs es
    have hgf : gr ((st_ (wr_ (st_ τ 1 (σm.1 1)) 1 2 (zS n s (rd_ σm 1 2) i)) 1 f).1 1) n := by rw [st_same]; exact g2
    have hfl : sF f n ≤ 792 := by
      rw [sF_sS]
      have := sS_le (D := dd f) (n := n) (B := 99) (fun i hi => dd_le g2 hi)
      omega
    refine Or.inl ⟨st_ (wr_ (st_ τ 1 (σm.1 1)) 1 2 (zS n s (rd_ σm 1 2) i)) 1 f, nI m, nI (sF (gO n (σm.1 1)) n), zS n s (rd_ σm 1 2) (i + 1), nI (lS (σm.1 1) n s (rd_ σm 1 2) (i + 1)), nI (i + 1), ⟨?_, ?_, ?_, rfl, rfl, rfl, rfl, rfl⟩, ?_⟩
    · exact ((a.st (fun j => Or.inl (Or.inr rfl))).wr (Or.inr rfl)).st (fun j => Or.inl (Or.inr rfl))
    · rw [st_k (by omega), row_k (by omega), st_k (by omega)]; exact e3
    · intro j hj; rw [st_same]; exact g4 j hj
    · unfold M_luck_47 M_luck_92
      rw [if_neg (nI_ge hi (by omega)), copyRow_3_1, er, bi_some, lt_eq, g1, bi_some, mfars hgf, bi_some, st_same, rd_st, g3, lS]
      by_cases c : lkB (σm.1 1) n s (zS n s (rd_ σm 1 2) i) = true
      · have := g5.mpr c
        rw [if_neg (nI_ge this (by omega)), if_pos c]
        simp only [lit, lt_eq, nI_add]
        rfl
      · have : ¬ sF f n < sF (gO n (σm.1 1)) n := fun q => c (g5.mp q)
        rw [if_pos (nI_le (by omega) (by omega)), if_neg c]
        simp only [lit, lt_eq, nI_add, Nat.add_zero]
        rfl
  · rintro K τ x1 x2 x3 x4 x5 ⟨a, e3, ehi, rfl, rfl, rfl, rfl, rfl⟩
    have er : fl (τ.1 3) (τ.1 1) 64 = σm.1 1 := by
      funext j
      unfold fl
      by_cases c : j < 64
      · rw [if_pos c, e3, fl, if_pos c]
      · rw [if_neg c]; exact ehi j (by omega)
    refine ⟨(nI (lS (σm.1 1) n s (rd_ σm 1 2) m), st_ τ 1 (σm.1 1)), ⟨rfl, ?_⟩, ?_⟩
    · exact ag_fix (a.st (fun j => Or.inl (Or.inr rfl))) (st_same _ _ _)
    · unfold M_luck_47
      rw [if_pos (Int32.le_refl _), copyRow_3_1, er, bi_some]
theorem eq_luck (h : R σc σm) (x1 : Int32) : eqv (C_luck_0 σc x1) (M_luck_0 σm x1) := by
  obtain ⟨⟨n, ha⟩, ho⟩ := id h
  rcases below1 (v := x1) (b := 30) (by omega) with ⟨m, h1, h2, rfl⟩ | hv
  · obtain ⟨s, hs, es⟩ := ha.1.2.2.1 3 (by omega)
    obtain ⟨τc, ac, hc⟩ := cluck ha (show s ≤ 99 from hs) es h1 h2
    obtain ⟨τm, am, hm⟩ := mluck ha (show s ≤ 99 from hs) es h1 h2
    have ez : rd_ σc 1 5 = rd_ σm 1 2 := ha.2.2.2.2.1
    rw [ez] at hc
    exact ⟨_, τc, τm, hc, hm, R.scr h (ac.mo (fun _ _ q => s58_sC q)) am⟩
  · refine ⟨-1, σc, σm, ?_, ?_, h⟩
    · rcases hv with hv | hv
      · simp only [C_luck_0, lit, if_pos hv]
      · by_cases c : x1 < nI 1
        · simp only [C_luck_0, lit, if_pos c]
        · simp only [C_luck_0, lit, if_neg c, if_neg (Int32.not_le.mpr hv)]
    · simp (disch := omega) only [M_luck_0, lit, litL, mi0 (by omega) (by omega) hv, bp_some, if_true]
end LUCK
