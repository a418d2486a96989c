theorem lifeN0 {σ : Sg} {n k : Nat} (hn : n ≤ 8) (e : rd_ σ 1 3 = nI n) (hk : n ≤ k) (hk2 : k < 2 ^ 31) : C1_life_0 σ (nI k) = some (none, σ) := by
  unfold C1_life_0
  simp (disch := omega) only [lit, e, cntc]
  rw [cw0' (Or.inr (pred_lt hn hk2 hk)), bp_some, if_pos rfl]
def FF (g : Nat → Int32) (n m o q : Nat) : Nat := dd (gN n (upd g (16 + 6 * o + 5) (nI q)) m) o
theorem FF_le {g : Nat → Int32} {n m o q : Nat} (hg : gr g n) (ho : o < n) (hq : q < 8) : FF g n m o q ≤ 99 := dd_le (gr_gN (gr_upd hg (by omega) (show q ≤ 7 by omega)) m) ho
def sQ (k _ : Nat) : Prop := k = 34 + 24 ∨ k = 32
section FILL
variable {σc σm : Sg} {n m : Nat}
theorem cfill (ha : RA σc σm n) (h1 : 1 ≤ m) (h2 : m ≤ 30) : ∃ τ, ag sQ σc τ ∧ (∀ o q, o < n → q < 8 → rd_ τ 32 (8 * o + q) = nI (FF (σm.1 1) n m o q)) ∧ C_fillFars_0 σc (nI m) = some ((), τ) := by
  have hn := ha.1.2.1
  have hg := ha.1
  unfold C_fillFars_0
  have key := li3 (F := C_fillFars_2) (z := fun _ _ _ => none) 64 (fun i τ x1 x2 => ag sQ σc τ ∧ (∀ q, q < i → q / 8 < n → rd_ τ 32 q = nI (FF (σm.1 1) n m (q / 8) (q % 8))) ∧ x1 = nI m ∧ x2 = nI i) (fun b => ag sQ σc b.2 ∧ ∀ q, q < 64 → q / 8 < n → rd_ b.2 32 q = nI (FF (σm.1 1) n m (q / 8) (q % 8))) σc (nI m) (nI 0) ⟨ag.rf, fun q hq => absurd hq (by omega), rfl, rfl⟩ ?_ ?_ (FU_gt (N := 64) (by omega))
  · obtain ⟨⟨r, τ⟩, ⟨b1, b2⟩, hb⟩ := key
    refine ⟨τ, b1, fun o q ho hq => ?_, hb⟩
    have := b2 (8 * o + q) (by omega) (by omega)
    rw [show (8 * o + q) / 8 = o by omega, show (8 * o + q) % 8 = q by omega] at this
    exact this
  · rintro K i τ x1 x2 hi ⟨a, w, rfl, rfl⟩
    have c3 : rd_ τ 1 3 = nI n := by rw [a.1 _ _ (by unfold sQ; omega)]; exact ha.cnt
    have q1 : nI i / 8 = nI (i / 8) := pk_div (d := 8) (by omega) (by omega) (by omega)
    have q2 : nI i - nI i / 8 * 8 = nI (i % 8) := pk_rem (d := 8) (by omega) (by omega) (by omega)
    by_cases c : i / 8 < n
    · have e : cE τ (σm.1 1) := by
        obtain ⟨e1, e2, e3⟩ := ha.cE
        exact ⟨by rw [a.1 _ _ (by unfold sQ; omega)]; exact e1, fun q hq => by rw [a.1 _ _ (by unfold sQ; omega)]; exact e2 q hq, fun q hq => by rw [a.1 _ _ (by unfold sQ; omega)]; exact e3 q hq⟩
      have l : cL τ (i / 8) (σm.1 1) (i / 8) := fun w hw => by rw [a.1 _ _ (by unfold sQ; omega)]; exact ha.cL c w hw
      have y : rd_ τ 1 4 = σm.1 1 1 := by rw [a.1 _ _ (by unfold sQ; omega)]; exact ha.yr1
      have f1 := cfarWith (w := 5) (v := i % 8) (m := m) hg c e l y (by omega) (show i % 8 ≤ 7 by omega) (by omega)
      have a1 := fwS_ag (σ := τ) (g := σm.1 1) (n := n) (o := i / 8) (w := 5) (v := i % 8) (m := m)
      refine Or.inl ⟨wr_ (fwS τ (σm.1 1) n (i / 8) 5 (i % 8) m) 32 i (nI (FF (σm.1 1) n m (i / 8) (i % 8))), nI m, nI (i + 1), ⟨(a.tr (a1.mo (fun _ _ q => Or.inl q))).wr (Or.inr rfl), fun q hq hq8 => ?_, rfl, rfl⟩, ?_⟩
      · rw [rd_wr]
        by_cases d : q = i
        · subst d; rw [if_pos ⟨rfl, rfl⟩]
        · rw [if_neg (fun z => d z.2), a1.1 _ _ (by unfold s58; omega)]; exact w q (by omega) hq8
      · unfold C_fillFars_2 C_fillFars_43
        rw [lit, if_neg (nI_ge hi (by omega)), q2, q1, lifeY0 hn c3 c, bi_some, on_S]
        simp (disch := omega) only [C_farSworn_0, lit, f1, bi_some, in_nI, gd_tt, nI_clamp, lt_eq, nI_add]
        rfl
    · refine Or.inl ⟨τ, nI m, nI (i + 1), ⟨a, fun q hq hq8 => w q (by omega) hq8, rfl, rfl⟩, ?_⟩
      unfold C_fillFars_2 C_fillFars_43
      rw [lit, if_neg (nI_ge hi (by omega)), q1, lifeN0 hn c3 (by omega) (by omega), bi_some, on_N, lt_eq, lit, nI_add]
  · rintro K τ x1 x2 ⟨a, w, rfl, rfl⟩
    refine ⟨((), τ), ⟨a, w⟩, ?_⟩
    unfold C_fillFars_2
    rw [lit, if_pos (Int32.le_refl _)]
theorem mfill (ha : RA σc σm n) (h1 : 1 ≤ m) (h2 : m ≤ 30) : ∃ τ, ag sM σm τ ∧ (∀ o q, o < n → q < 8 → rd_ τ 6 (8 * o + q) = nI (FF (σm.1 1) n m o q)) ∧ M_swearsAll_0 σm (nI m) = some ((), τ) := by
  have hn := ha.1.2.1
  have hg := ha.1
  unfold M_swearsAll_0
  have key := li3 (F := M_swearsAll_2) (z := fun _ _ _ => none) n (fun o τ x1 x2 => ag aM σm τ ∧ τ.1 1 = σm.1 1 ∧ (∀ o' q, o' < o → q < 8 → rd_ τ 6 (8 * o' + q) = nI (FF (σm.1 1) n m o' q)) ∧ x1 = nI m ∧ x2 = nI o) (fun b => ag sM σm b.2 ∧ ∀ o q, o < n → q < 8 → rd_ b.2 6 (8 * o + q) = nI (FF (σm.1 1) n m o q)) σm (nI m) (nI 0) ⟨ag.rf, rfl, fun o' q h => absurd h (by omega), rfl, rfl⟩ ?_ ?_ (FU_gt (N := n) (by omega))
  · obtain ⟨⟨r, τ⟩, ⟨b1, b2⟩, hb⟩ := key
    exact ⟨τ, b1, b2, hb⟩
  · rintro K o τ x1 x2 ho ⟨a, r1, w, rfl, rfl⟩
    have e0 : rd_ τ 1 0 = nI n := by rw [rd_row, r1]; exact hg.1
    have inner := lj6 (F := M_swearsAll_33 K) (z := fun _ _ _ _ _ _ => none) 8 (fun q υ x1 x2 x3 x4 x5 => ag aM σm υ ∧ (∀ v, upd (υ.1 1) (16 + 6 * o + 5) v = upd (σm.1 1) (16 + 6 * o + 5) v) ∧ (∀ o' q', (o' < o ∧ q' < 8) ∨ (o' = o ∧ q' < q) → rd_ υ 6 (8 * o' + q') = nI (FF (σm.1 1) n m o' q')) ∧ x1 = nI m ∧ x2 = nI o ∧ x3 = nI (16 + 6 * o + 5) ∧ x4 = σm.1 1 (16 + 6 * o + 5) ∧ x5 = nI q) (fun υ => ag aM σm υ ∧ υ.1 1 = σm.1 1 ∧ (∀ o' q, o' < o + 1 → q < 8 → rd_ υ 6 (8 * o' + q) = nI (FF (σm.1 1) n m o' q))) (fun υ => K υ (nI m) (nI (o + 1))) τ (nI m) (nI o) (nI (16 + 6 * o + 5)) (σm.1 1 (16 + 6 * o + 5)) (nI 0) ⟨a, fun v => by rw [r1], fun o' q' h => w o' q' (by omega) (by omega), rfl, rfl, rfl, rfl, rfl⟩ ?_ ?_ (FU_gt (N := 8) (by omega))
    · obtain ⟨υ, ⟨i1, i2, i3⟩, hi⟩ := inner
      refine Or.inl ⟨υ, nI m, nI (o + 1), ⟨i1, i2, i3, rfl, rfl⟩, ?_⟩
      unfold M_swearsAll_2
      rw [e0, if_neg (nI_ge ho (by omega))]
      simp (disch := omega) only [lit, pk_mul, nI_add, lt_eq, in_nI, gd_tt, nI_clamp, rd_row, r1]
      exact hi
    · rintro K2 q υ y1 y2 y3 y4 y5 hq ⟨b, r, w2, rfl, rfl, rfl, rfl, rfl⟩
      have er : (wr_ υ 1 (16 + 6 * o + 5) (nI q)).1 1 = upd (σm.1 1) (16 + 6 * o + 5) (nI q) := by rw [row_same, r]
      have hf := mfarBehind (σ := wr_ υ 1 (16 + 6 * o + 5) (nI q)) (n := n) (o := o) (m := m) (by rw [er]; exact gr_upd hg (by omega) (show q ≤ 7 by omega)) ho (by omega)
      rw [er] at hf
      refine Or.inl ⟨wr_ (asd (wr_ υ 1 (16 + 6 * o + 5) (nI q))) 6 (8 * o + q) (nI (FF (σm.1 1) n m o q)), nI m, nI o, nI (16 + 6 * o + 5), σm.1 1 (16 + 6 * o + 5), nI (q + 1), ⟨((b.wr (by simp [aM])).tr (asd_ag (fun j => by simp [aM, sM]))).wr (by simp [aM, sM]), fun v => ?_, fun o' q' h => ?_, rfl, rfl, rfl, rfl, rfl⟩, ?_⟩
      · rw [row_k (by omega), asd_1, er, upd_upd]
      · rw [rd_wr]
        by_cases d : 8 * o' + q' = 8 * o + q
        · have d1 : o' = o := by omega
          have d2 : q' = q := by omega
          rw [if_pos ⟨rfl, d⟩, d1, d2]
        · rw [if_neg (fun z => d z.2)]
          unfold asd
          rw [rd_stk (by omega), rd_k (by omega)]
          exact w2 o' q' (by omega)
      · unfold M_swearsAll_33
        simp (disch := omega) only [lit, nI_leI, if_neg, in_nI, gd_tt, nI_clamp, lt_eq, hf, bi_some, pk_mul, nI_add]
        rfl
    · rintro K2 υ y1 y2 y3 y4 y5 ⟨b, r, w2, rfl, rfl, rfl, rfl, rfl⟩
      refine ⟨wr_ υ 1 (16 + 6 * o + 5) (σm.1 1 (16 + 6 * o + 5)), ⟨b.wr (by simp [aM]), ?_, fun o' q h1 h2 => ?_⟩, ?_⟩
      · rw [row_same, r, up_self rfl]
      · rw [rd_k (by omega)]; exact w2 o' q (by omega)
      · unfold M_swearsAll_33
        simp (disch := omega) only [lit, nI_leI, if_pos, in_nI, gd_tt, nI_clamp, lt_eq, nI_add]
  · rintro K τ x1 x2 ⟨a, r1, w, rfl, rfl⟩
    have e0 : rd_ τ 1 0 = nI n := by rw [rd_row, r1]; exact hg.1
    refine ⟨((), τ), ⟨ag_fix a r1, w⟩, ?_⟩
    unfold M_swearsAll_2
    rw [e0, if_pos (Int32.le_refl _)]
end FILL
section BESTC
variable {σ : Sg} {n : Nat} {F : Nat → Nat → Nat}
def s33 (k _ : Nat) : Prop := k = 33
theorem cfarAt {o q : Nat} (ho : o < 8) (hq : q < 8) : C_farAt_0 σ (nI o) (nI q) = some (rd_ σ 32 (8 * o + q), σ) := by
  have : o * 8 + q = 8 * o + q := by omega
  simp (disch := omega) only [C_farAt_0, lit, pk_mul, nI_add, pk_sub, lt_eq, this, cw1, bp_some, nI_eq, if_neg, in_nI, gd_tt, nI_clamp]
theorem cswearNext {s : Nat} (hn : n ≤ 8) (hF : ∀ o g, o < n → g < 8 → F o g ≤ 99) (hf : ∀ o g, o < n → g < 8 → rd_ σ 32 (8 * o + g) = nI (F o g)) (hs : s < 256) (hp : pc s < n) (hl : ∀ t, t < 256 → rd_ σ 33 t = nI (cl F n s 0 t)) : ∃ τ, ag s33 σ τ ∧ (∀ t, t < 256 → rd_ τ 33 t = nI (cl F n (s + 1) 0 t)) ∧ C_swearNext_0 σ (nI s) (nI (pc s)) = some ((), τ) := by
  have hcb : ∀ a b t, cl F n a b t ≤ 10000 := fun a b t => by
    unfold cl
    split
    · omega
    · exact run_B
  have hLs : LL F s ≤ 792 := by have := LL_le F hF hs (by omega); have := pc_le s; omega
  have pl := pc_le s
  unfold C_swearNext_0
  have key := li4 (F := C_swearNext_2) (z := fun _ _ _ _ => none) 8 (fun i τ x1 x2 x3 => ag s33 σ τ ∧ (∀ t, t < 256 → rd_ τ 33 t = nI (cl F n s i t)) ∧ x1 = nI s ∧ x2 = nI (pc s) ∧ x3 = nI i) (fun b => ag s33 σ b.2 ∧ ∀ t, t < 256 → rd_ b.2 33 t = nI (cl F n (s + 1) 0 t)) σ (nI s) (nI (pc s)) (nI 0) ⟨ag.rf, hl, rfl, rfl, rfl⟩ ?_ ?_ (FU_gt (N := 8) (by omega))
  · obtain ⟨⟨r, τ⟩, ⟨b1, b2⟩, hb⟩ := key
    exact ⟨τ, b1, b2, hb⟩
  · rintro K i τ x1 x2 x3 hi ⟨a, w, rfl, rfl, rfl⟩
    cases hb : bitB s i
    · have ha := bit_add hs hi hb
      have hne : ¬ s + 2 ^ i = s := by have := Nat.two_pow_pos i; omega
      have hfv := hF (pc s) i hp hi
      have e32 : rd_ τ 32 (8 * pc s + i) = nI (F (pc s) i) := by rw [a.1 _ _ (by unfold s33; omega)]; exact hf (pc s) i hp hi
      have es : rd_ τ 33 s = nI (LL F s) := by rw [w s hs, cl_self F hn hF hs (by omega)]
      have ec := hcb s i (s + 2 ^ i)
      have et := w (s + 2 ^ i) ha.1
      refine Or.inl ⟨wr_ τ 33 (s + 2 ^ i) (nI (cl F n s (i + 1) (s + 2 ^ i))), nI s, nI (pc s), nI (i + 1), ⟨a.wr rfl, fun t ht => ?_, rfl, rfl, rfl⟩, ?_⟩
      · rw [rd_wr]
        by_cases c : t = s + 2 ^ i
        · rw [if_pos ⟨rfl, c⟩, c]
        · rw [if_neg (fun z => c z.2), w t ht, cl_step F hs hi hb hp ht, if_neg c]
      · have em : (if nI (LL F s + F (pc s) i) < nI (cl F n s i (s + 2 ^ i)) then nI (LL F s + F (pc s) i) else nI (cl F n s i (s + 2 ^ i))) = nI (cl F n s (i + 1) (s + 2 ^ i)) := by
          rw [cl_step F hs hi hb hp ha.1, if_pos rfl]
          by_cases c : LL F s + F (pc s) i < cl F n s i (s + 2 ^ i)
          · rw [if_pos (nI_lt c (by omega)), if_pos (by omega)]
          · rw [if_neg (nI_nlt (by omega) (by omega))]
            by_cases d : LL F s + F (pc s) i ≤ cl F n s i (s + 2 ^ i)
            · rw [if_pos d]; exact congrArg nI (by omega)
            · rw [if_neg d]
        unfold C_swearNext_2 C_swearNext_80
        simp (disch := omega) only [lit, nI_leI, if_neg, lt_eq, ha.2.2.2, nI_eq, pk_sub, cw1, bp_some, in_nI, gd_tt, cfarAt, bi_some, nI_clamp, es, e32, et, em, nI_add]
    · have ho := bit_or hs hi hb
      refine Or.inl ⟨τ, nI s, nI (pc s), nI (i + 1), ⟨a, fun t ht => ?_, rfl, rfl, rfl⟩, ?_⟩
      · rw [cl_skip F hs hi hb ht]; exact w t ht
      · unfold C_swearNext_2 C_swearNext_80
        simp (disch := omega) only [lit, nI_leI, if_neg, lt_eq, ho.1, if_true, nI_add]
  · rintro K τ x1 x2 x3 ⟨a, w, rfl, rfl, rfl⟩
    refine ⟨((), τ), ⟨a, fun t ht => ?_⟩, ?_⟩
    · rw [w t ht, cl_next F ht]
    · unfold C_swearNext_2
      rw [lit, if_pos (Int32.le_refl _)]
theorem cbest {k : Nat} (hn : n ≤ 8) (hc : rd_ σ 1 3 = nI n) (hF : ∀ o g, o < n → g < 8 → F o g ≤ 99) (hf : ∀ o g, o < n → g < 8 → rd_ σ 32 (8 * o + g) = nI (F o g)) : ∃ τ, ag s33 σ τ ∧ lp_ C_best_16 (fun _ _ => none) FU σ (nI 0) = some (nI (bB F n 10000 256), τ) := by
  have key := li2 (F := C_best_16) (z := fun _ _ => none) 256 (fun i τ x2 => ag s33 σ τ ∧ (∀ q, q < i → rd_ τ 33 q = nI 10000) ∧ x2 = nI i) (fun b => ag s33 σ b.2 ∧ b.1 = nI (bB F n 10000 256)) σ (nI 0) ⟨ag.rf, fun q hq => absurd hq (by omega), rfl⟩ ?_ ?_ (FU_gt (N := 256) (by omega))
  · obtain ⟨⟨r, τ⟩, ⟨b1, b2⟩, hb⟩ := key
    dsimp only at b1 b2
    subst b2
    exact ⟨τ, b1, hb⟩
  · rintro K i τ x2 hi ⟨a, w, rfl⟩
    refine Or.inl ⟨wr_ τ 33 i (nI 10000), nI (i + 1), ⟨a.wr rfl, fun q hq => ?_, rfl⟩, ?_⟩
    · rw [rd_wr]
      by_cases c : q = i
      · rw [if_pos ⟨rfl, c⟩]
      · rw [if_neg (fun z => c z.2)]; exact w q (by omega)
    · unfold C_best_16
      simp (disch := omega) only [lit, nI_leI, if_neg, in_nI, gd_tt, nI_clamp, lt_eq, nI_add]
  · rintro K τ x2 ⟨a, w, rfl⟩
    have i2 := li3 (F := C_best_53) (z := fun _ _ _ => none) 256 (fun s υ x2 x3 => ag s33 σ υ ∧ (∀ t, t < 256 → rd_ υ 33 t = nI (cl F n s 0 t)) ∧ x2 = nI (bB F n 10000 s) ∧ x3 = nI s) (fun b => ag s33 σ b.2 ∧ b.1 = nI (bB F n 10000 256)) (wr_ τ 33 0 (nI 0)) (nI 10000) (nI 0) ⟨a.wr rfl, fun t ht => ?_, rfl, rfl⟩ ?_ ?_ (FU_gt (N := 256) (by omega))
    · obtain ⟨b, hb1, hb2⟩ := i2
      refine ⟨b, hb1, ?_⟩
      unfold C_best_16
      simp only [lit, Int32.le_refl, if_true, lt_eq]
      exact hb2
    · rw [rd_wr]
      by_cases c : t = 0
      · rw [if_pos ⟨rfl, c⟩, c]; rfl
      · rw [if_neg (fun z => c z.2), w t ht, cl_0 F c]
    · rintro K2 s υ y2 y3 hs ⟨b, w2, rfl, rfl⟩
      have c3 : rd_ υ 1 3 = nI n := by rw [b.1 _ _ (by unfold s33; omega)]; exact hc
      have pl := pc_le s
      have hB : bB F n 10000 s ≤ 10000 := run_B
      by_cases c : pc s = n
      · have hL : LL F s ≤ 792 := by have := LL_le F hF hs (by omega); omega
        have es : rd_ υ 33 s = nI (LL F s) := by rw [w2 s hs, cl_self F hn hF hs (by omega)]
        have eb : bB F n 10000 (s + 1) = if LL F s ≤ bB F n 10000 s then LL F s else bB F n 10000 s := by
          unfold bB
          rw [run, if_pos (decide_eq_true c)]
        have em : (if nI (LL F s) < nI (bB F n 10000 s) then nI (LL F s) else nI (bB F n 10000 s)) = nI (bB F n 10000 (s + 1)) := by
          rw [eb]
          by_cases d : LL F s < bB F n 10000 s
          · rw [if_pos (nI_lt d (by omega)), if_pos (by omega)]
          · rw [if_neg (nI_nlt (by omega) (by omega))]
            by_cases d2 : LL F s ≤ bB F n 10000 s
            · rw [if_pos d2]; exact congrArg nI (by omega)
            · rw [if_neg d2]
        refine Or.inl ⟨υ, nI (bB F n 10000 (s + 1)), nI (s + 1), ⟨b, fun t ht => ?_, rfl, rfl⟩, ?_⟩
        · rw [w2 t ht, cl_full F ht (by omega)]
        · unfold C_best_53 C_best_113
          simp (disch := omega) only [lit, nI_leI, if_neg, bitc hs, bp_some, c3, c, if_true, in_nI, gd_tt, nI_clamp, es, em, lt_eq, nI_add]
      · have eb : bB F n 10000 (s + 1) = bB F n 10000 s := by
          unfold bB
          rw [run, decide_eq_false c]
          rfl
        by_cases d : n ≤ pc s
        · refine Or.inl ⟨υ, nI (bB F n 10000 (s + 1)), nI (s + 1), ⟨b, fun t ht => ?_, rfl, rfl⟩, ?_⟩
          · rw [w2 t ht, cl_full F ht d]
          · unfold C_best_53 C_best_113
            simp (disch := omega) only [lit, nI_leI, if_neg, bitc hs, bp_some, c3, nI_eq, if_pos, lt_eq, nI_add, eb]
        · obtain ⟨υ2, a2, w3, hsn⟩ := cswearNext (σ := υ) (s := s) hn hF (fun o g ho hg => by rw [b.1 _ _ (by unfold s33; omega)]; exact hf o g ho hg) hs (by omega) w2
          refine Or.inl ⟨υ2, nI (bB F n 10000 (s + 1)), nI (s + 1), ⟨b.tr a2, w3, rfl, rfl⟩, ?_⟩
          unfold C_best_53 C_best_113
          simp (disch := omega) only [lit, nI_leI, if_neg, bitc hs, bp_some, c3, nI_eq, hsn, bi_some, lt_eq, nI_add, eb]
    · rintro K2 υ y2 y3 ⟨b, w2, rfl, rfl⟩
      refine ⟨(nI (bB F n 10000 256), υ), ⟨b, rfl⟩, ?_⟩
      unfold C_best_53
      simp only [lit, Int32.le_refl, if_true]
def s7 (k _ : Nat) : Prop := k = 7
theorem LL_b {BB t : Nat} (hF : ∀ o g, o < n → g < 8 → F o g ≤ 99) (h1 : 10000 ≤ BB) (h0 : ¬ t = 0) (ht : t < 256) (hp : pc t ≤ n) : LL F t = run (bitB t) (vv F t) BB 8 := by
  obtain ⟨g, hg, hb⟩ := bit_some h0 ht
  have hv := vv_le F hF ht hp hg hb
  have pl := pc_le t
  rw [LL_s F h0 ht, ← run_init (P := bitB t) (v := vv F t) (B := 10000) (B' := 100000) (by omega) hg hb (by omega)]
  exact run_init h1 hg hb (by omega)
theorem mb53 {s B : Nat} {K : Sg → Int32 → Int32 → Option (Int32 × Sg)} {x2 : Int32} (hn : n ≤ 8) (hc : rd_ σ 1 0 = nI n) (hF : ∀ o g, o < n → g < 8 → F o g ≤ 99) (hf : ∀ o g, o < n → g < 8 → rd_ σ 6 (8 * o + g) = nI (F o g)) (hs : s < 256) (hp : pc s ≤ n) (hB : B ≤ 1000000) (e7 : rd_ σ 7 s = nI B) (w : ∀ t, t < s → pc t ≤ n → rd_ σ 7 t = nI (LL F t)) : ∃ τ, (ag s7 σ τ ∧ (∀ t, t < s → rd_ τ 7 t = rd_ σ 7 t) ∧ rd_ τ 7 s = nI (run (bitB s) (vv F s) B 8)) ∧ lp_ (M_best_53 K) (fun _ _ _ _ _ => none) FU σ x2 (nI s) (nI (pc s)) (nI 0) = M_best_131 K τ x2 (nI s) (nI (pc s)) := by
  have pl := pc_le s
  refine lj5 (F := M_best_53 K) (z := fun _ _ _ _ _ => none) 8 (fun i τ y2 y3 y4 y5 => ag s7 σ τ ∧ (∀ t, t < s → rd_ τ 7 t = rd_ σ 7 t) ∧ rd_ τ 7 s = nI (run (bitB s) (vv F s) B i) ∧ y2 = x2 ∧ y3 = nI s ∧ y4 = nI (pc s) ∧ y5 = nI i) (fun τ => ag s7 σ τ ∧ (∀ t, t < s → rd_ τ 7 t = rd_ σ 7 t) ∧ rd_ τ 7 s = nI (run (bitB s) (vv F s) B 8)) (fun τ => M_best_131 K τ x2 (nI s) (nI (pc s))) σ x2 (nI s) (nI (pc s)) (nI 0) ⟨ag.rf, fun _ _ => rfl, e7, rfl, rfl, rfl, rfl⟩ ?_ ?_ (FU_gt (N := 8) (by omega))
  · rintro K2 i τ y2 y3 y4 y5 hi ⟨t1, t2, t3, rfl, rfl, rfl, rfl⟩
    have c2 : rd_ τ 1 0 = nI n := by rw [t1.1 _ _ (by unfold s7; omega)]; exact hc
    have eb := ezb_bit hs hi
    cases hb : bitB s i
    · rw [hb] at eb
      simp only [Bool.false_eq_true, if_false] at eb
      refine Or.inl ⟨τ, y2, nI s, nI (pc s), nI (i + 1), ⟨t1, t2, ?_, rfl, rfl, rfl, rfl⟩, ?_⟩
      · rw [t3, run, hb]; rfl
      · unfold M_best_53 M_best_125
        simp (disch := omega) only [lit, nI_leI, if_neg, c2, nI_ltI, eb, nI_eq, lt_eq, nI_add]
    · rw [hb] at eb
      simp only [if_true] at eb
      have hf2 := bit_facts hs hi hb
      have hor := (bit_or hs hi hb).2
      have ev : rd_ τ 7 (s - 2 ^ i) = nI (LL F (s - 2 ^ i)) := (t2 (s - 2 ^ i) (by omega)).trans (w _ (by omega) (by omega))
      have e6 : rd_ τ 6 (8 * (pc s - 1) + i) = nI (F (pc s - 1) i) := by rw [t1.1 _ _ (by unfold s7; omega)]; exact hf _ _ (by omega) hi
      have hv : LL F (s - 2 ^ i) + F (pc s - 1) i = vv F s i := rfl
      have hvl := vv_le F hF hs hp hi hb
      have hrl : run (bitB s) (vv F s) B i ≤ B := run_B
      have er : run (bitB s) (vv F s) B (i + 1) = if vv F s i ≤ run (bitB s) (vv F s) B i then vv F s i else run (bitB s) (vv F s) B i := by
        rw [run, hb]; rfl
      have em := mleast (run (bitB s) (vv F s) B i) (vv F s i) (by omega) (by omega)
      rw [← er] at em
      generalize run (bitB s) (vv F s) B i = ra at t3 em hrl
      generalize run (bitB s) (vv F s) B (i + 1) = rb at em
      refine Or.inl ⟨wr_ τ 7 s (nI rb), y2, nI s, nI (pc s), nI (i + 1), ⟨t1.wr rfl, fun t ht => ?_, rd_same _ _ _ _, rfl, rfl, rfl, rfl⟩, ?_⟩
      · rw [rd_j (by omega)]; exact t2 t ht
      · unfold M_best_53 M_best_125
        simp (disch := omega) only [lit, nI_leI, if_neg, c2, nI_ltI, eb, if_true, in_nI, gd_tt, lt_eq, hor, pk_sub, pk_mul, nI_add, nI_clamp, t3, ev, e6, hv, em, bp_some]
  · rintro K2 τ y2 y3 y4 y5 ⟨t1, t2, t3, rfl, rfl, rfl, rfl⟩
    refine ⟨τ, ⟨t1, t2, t3⟩, ?_⟩
    unfold M_best_53
    simp only [lit, Int32.le_refl, if_true]
theorem mb131 {s b L : Nat} {K : Sg → Int32 → Int32 → Option (Int32 × Sg)} (hn : n ≤ 8) (hc : rd_ σ 1 0 = nI n) (hs : s < 256) (e : pc s = n → rd_ σ 7 s = nI L) (hb : b < 2 ^ 31) (hL : L < 2 ^ 31) : M_best_131 K σ (nI b) (nI s) (nI (pc s)) = K σ (nI (if decide (pc s = n) = true then (if L ≤ b then L else b) else b)) (nI (s + 1)) := by
  have pl := pc_le s
  unfold M_best_131 M_best_156
  by_cases c : pc s = n
  · rw [decide_eq_true c, if_pos rfl, hc, c, if_pos rfl, in_nI hs (by omega), gd_tt, nI_clamp (by omega), e c, mleast _ _ hb hL, bp_some, lt_eq, lit, nI_add]
  · rw [decide_eq_false c, hc, if_neg (fun q => c ((nI_eq (by omega) (by omega)).mp q)), lt_eq, lit, nI_add]
    rfl
theorem mb20 {s b BB : Nat} {K : Sg → Int32 → Int32 → Option (Int32 × Sg)} (hBB : (100000 : Int32) = nI BB) (hB1 : 10000 ≤ BB) (hB2 : BB ≤ 1000000) (hn : n ≤ 8) (hc : rd_ σ 1 0 = nI n) (hF : ∀ o g, o < n → g < 8 → F o g ≤ 99) (hf : ∀ o g, o < n → g < 8 → rd_ σ 6 (8 * o + g) = nI (F o g)) (hs : s < 256) (hb : b < 2 ^ 31) (w : ∀ t, t < s → pc t ≤ n → rd_ σ 7 t = nI (LL F t)) : ∃ τ, ag s7 σ τ ∧ (∀ t, t < s + 1 → pc t ≤ n → rd_ τ 7 t = nI (LL F t)) ∧ M_best_20 K σ (nI b) (nI s) = K τ (nI (if decide (pc s = n) = true then (if LL F s ≤ b then LL F s else b) else b)) (nI (s + 1)) := by
  have pl := pc_le s
  obtain ⟨B, hBv, hst⟩ : ∃ B, ((s = 0 ∧ B = 0) ∨ (¬ s = 0 ∧ B = BB)) ∧ M_best_20 K σ (nI b) (nI s) = M_best_49 K σ (nI b) (nI s) (nI (pc s)) (nI B) (nI s) := by
    unfold M_best_20
    by_cases c : s = 0
    · refine ⟨0, Or.inl ⟨c, rfl⟩, ?_⟩
      rw [if_neg (show ¬ (256 : Int32) ≤ nI s from nI_ge (a := s) (b := 256) hs (by omega)), msize hs, bp_some, if_pos (show nI s = 0 by rw [c]; rfl)]
      rfl
    · refine ⟨BB, Or.inr ⟨c, rfl⟩, ?_⟩
      rw [if_neg (show ¬ (256 : Int32) ≤ nI s from nI_ge (a := s) (b := 256) hs (by omega)), msize hs, bp_some, if_neg (nI_ne0 (by omega) (by omega)), hBB]
  have hBl : B ≤ 1000000 := by omega
  have c1 : rd_ (wr_ σ 7 s (nI B)) 1 0 = nI n := by rw [rd_k (by omega)]; exact hc
  have e49 : M_best_49 K σ (nI b) (nI s) (nI (pc s)) (nI B) (nI s) = lp_ (M_best_53 K) (fun _ _ _ _ _ => none) FU (wr_ σ 7 s (nI B)) (nI b) (nI s) (nI (pc s)) (nI 0) := by
    unfold M_best_49
    rw [in_nI hs (by omega), gd_tt, nI_clamp (by omega), lt_eq]
    rfl
  rw [hst, e49]
  by_cases hp : pc s ≤ n
  · obtain ⟨τ, ⟨t1, t2, t3⟩, ht⟩ := mb53 (σ := wr_ σ 7 s (nI B)) (K := K) (x2 := nI b) hn c1 hF (fun o g ho hg => by rw [rd_k (by omega)]; exact hf o g ho hg) hs hp hBl (rd_same _ _ _ _) (fun t ht hpt => by rw [rd_j (by omega)]; exact w t ht hpt)
    have eL : run (bitB s) (vv F s) B 8 = LL F s := by
      rcases hBv with ⟨rfl, rfl⟩ | ⟨c, rfl⟩
      · exact Nat.le_zero.mp run_B
      · exact (LL_b hF hB1 c hs hp).symm
    rw [eL] at t3
    have hL := LL_le F hF hs hp
    have c2 : rd_ τ 1 0 = nI n := by rw [t1.1 _ _ (by unfold s7; omega)]; exact c1
    refine ⟨τ, (ag.rf.wr rfl : ag s7 σ (wr_ σ 7 s (nI B))).tr t1, fun t ht2 hpt => ?_, ?_⟩
    · by_cases c : t = s
      · subst c; exact t3
      · rw [t2 t (by omega), rd_j (by omega)]; exact w t (by omega) hpt
    · rw [ht, mb131 hn c2 hs (fun _ => t3) hb (by omega)]
  · refine ⟨wr_ σ 7 s (nI B), ag.rf.wr rfl, fun t ht2 hpt => ?_, ?_⟩
    · by_cases c : t = s
      · subst c; exact absurd hpt hp
      · rw [rd_j (by omega)]; exact w t (by omega) hpt
    · have e53 : lp_ (M_best_53 K) (fun _ _ _ _ _ => none) FU (wr_ σ 7 s (nI B)) (nI b) (nI s) (nI (pc s)) (nI 0) = M_best_131 K (wr_ σ 7 s (nI B)) (nI b) (nI s) (nI (pc s)) := by
        rw [lp300, M_best_53, if_neg (by decide), c1, if_pos (nI_lt (by omega) (by omega))]
      rw [e53, mb131 (L := 0) hn c1 hs (fun q => absurd q (by omega)) hb (by omega), decide_eq_false (by omega)]
      rfl
theorem mbest {BB : Nat} (hBB : (100000 : Int32) = nI BB) (hB1 : 10000 ≤ BB) (hB2 : BB ≤ 1000000) (hn : n ≤ 8) (hc : rd_ σ 1 0 = nI n) (hF : ∀ o g, o < n → g < 8 → F o g ≤ 99) (hf : ∀ o g, o < n → g < 8 → rd_ σ 6 (8 * o + g) = nI (F o g)) : ∃ τ, ag s7 σ τ ∧ lp_ M_best_20 (fun _ _ _ => none) FU σ (nI BB) (nI 0) = some (nI (bB F n BB 256), τ) := by
  have key := li3 (F := M_best_20) (z := fun _ _ _ => none) 256 (fun s υ x2 x3 => ag s7 σ υ ∧ (∀ t, t < s → pc t ≤ n → rd_ υ 7 t = nI (LL F t)) ∧ x2 = nI (bB F n BB s) ∧ x3 = nI s) (fun b => ag s7 σ b.2 ∧ b.1 = nI (bB F n BB 256)) σ (nI BB) (nI 0) ⟨ag.rf, fun t ht => absurd ht (by omega), rfl, rfl⟩ ?_ ?_ (FU_gt (N := 256) (by omega))
  · obtain ⟨⟨r, τ⟩, ⟨b1, b2⟩, hb⟩ := key
    dsimp only at b1 b2
    subst b2
    exact ⟨τ, b1, hb⟩
  · rintro K s υ x2 x3 hs ⟨b, w, rfl, rfl⟩
    have hB : bB F n BB s ≤ BB := run_B
    obtain ⟨τ, t1, t2, t3⟩ := mb20 (σ := υ) (K := K) (b := bB F n BB s) hBB hB1 hB2 hn (by rw [b.1 _ _ (by unfold s7; omega)]; exact hc) hF (fun o g ho hg => by rw [b.1 _ _ (by unfold s7; omega)]; exact hf o g ho hg) hs (by omega) w
    exact Or.inl ⟨τ, _, nI (s + 1), ⟨b.tr t1, t2, rfl, rfl⟩, t3⟩
  · rintro K υ x2 x3 ⟨b, w, rfl, rfl⟩
    refine ⟨(nI (bB F n BB 256), υ), ⟨b, rfl⟩, ?_⟩
    unfold M_best_20
    rw [lit, if_pos (Int32.le_refl _)]
theorem bB_eq2 {BB : Nat} (h1 : 10000 ≤ BB) (hn : n ≤ 8) (hF : ∀ o g, o < n → g < 8 → F o g ≤ 99) : bB F n 10000 256 = bB F n BB 256 := by
  have hp := pc_full hn
  have hl := LL_le F hF hp.2 (by omega)
  exact run_init (i := 2 ^ n - 1) h1 hp.2 (decide_eq_true hp.1) (by omega)
end BESTC
theorem bigB : ∃ BB : Nat, (100000 : Int32) = nI BB ∧ 10000 ≤ BB ∧ BB ≤ 1000000 := ⟨100000, lit 100000, by omega, by omega⟩
theorem cbest0 {σ τ υ : Sg} {m : Nat} {r : Int32} (h1 : 1 ≤ m) (h2 : m ≤ 30) (e1 : C_fillFars_0 σ (nI m) = some ((), τ)) (f1 : lp_ C_best_16 (fun _ _ => none) FU τ (nI 0) = some (r, υ)) : C_best_0 σ (nI m) = some (r, υ) := by
  unfold C_best_0
  rw [cplan1 h1 h2, bp_some, if_neg (by decide), e1, bi_some]
  exact f1
theorem mbest0 {σ τ υ : Sg} {m BB : Nat} {r : Int32} (hBB : (100000 : Int32) = nI BB) (h1 : 1 ≤ m) (h2 : m ≤ 30) (e1 : M_swearsAll_0 σ (nI m) = some ((), τ)) (f1 : lp_ M_best_20 (fun _ _ _ => none) FU τ (nI BB) (nI 0) = some (r, υ)) : M_best_0 σ (nI m) = some (r, υ) := by
  unfold M_best_0
  rw [mshort1 h1 h2, bp_some, if_neg (by decide), e1, bi_some, hBB]
  exact f1
section EQBEST
variable {σc σm : Sg}
theorem eq_best (h : R σc σm) (x1 : Int32) : eqv (C_best_0 σc x1) (M_best_0 σm x1) := by
  obtain ⟨⟨n, ha⟩, ho⟩ := id h
  have hn := ha.1.2.1
  rcases below1 (v := x1) (b := 30) (by omega) with ⟨m, h1, h2, rfl⟩ | hv
  · obtain ⟨τc, a1, w1, e1⟩ := cfill ha h1 h2
    obtain ⟨τm, a2, w2, e2⟩ := mfill ha h1 h2
    have hF : ∀ o g, o < n → g < 8 → FF (σm.1 1) n m o g ≤ 99 := fun o g ho hg => FF_le ha.1 ho hg
    obtain ⟨υc, b1, f1⟩ := cbest (σ := τc) (k := 0) hn (by rw [a1.1 _ _ (by unfold sQ; omega)]; exact ha.cnt) hF w1
    obtain ⟨BB, hBB, hB1, hB2⟩ := bigB
    obtain ⟨υm, b2, f2⟩ := mbest (σ := τm) hBB hB1 hB2 hn (by rw [a2.1 _ _ (by simp [sM])]; exact ha.n0) hF w2
    have f3 := cbest0 h1 h2 e1 f1
    have f4 := mbest0 hBB h1 h2 e2 f2
    have e : nI (bB (FF (σm.1 1) n m) n 10000 256) = nI (bB (FF (σm.1 1) n m) n BB 256) := congrArg nI (bB_eq2 hB1 hn hF)
    generalize nI (bB (FF (σm.1 1) n m) n 10000 256) = r1 at f3 e
    generalize nI (bB (FF (σm.1 1) n m) n BB 256) = r2 at f4 e
    subst e
    refine ⟨r1, υc, υm, f3, f4, R.scr h ((a1.mo (fun _ _ q => ?_)).tr (b1.mo (fun _ _ q => ?_))) (a2.tr (b2.mo (fun _ _ q => ?_)))⟩
    · unfold sQ at q; unfold sC; omega
    · unfold s33 at q; unfold sC; omega
    · unfold s7 at q; unfold sM; omega
  · refine ⟨-1, σc, σm, ?_, ?_, h⟩
    · unfold C_best_0
      rw [cplan0 hv, bp_some, if_pos (by decide)]
    · unfold M_best_0
      rw [mshort0 hv, bp_some, if_pos (by decide)]
end EQBEST
