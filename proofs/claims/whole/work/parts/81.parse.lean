/-! what is told, side by side -/
def fC' (k j : Nat) : Prop := k = 20 ∧ 2 ≤ j
def fM' (k j : Nat) : Prop := k = 0 ∧ 7 ≤ j ∧ j ≤ 11
def NS (t : Nat) (B : Nat → Nat) (τc τm : Sg) (p b e c : Nat) : Prop := TX t B τc τm ∧ CT t B τc p b e c ∧ MT t B τm p b e c ∧ rd_ τc 20 5 = m1 ∧ rd_ τm 0 11 = nI 0
def FS (t : Nat) (B : Nat → Nat) (τc τm : Sg) : Prop := TX t B τc τm ∧ (∃ p b e c, CT t B τc p b e c) ∧ (∃ p b e c, MT t B τm p b e c ∧ rd_ τc 20 5 = nI b) ∧ rd_ τm 0 11 = nI 1
theorem Tk.le {t : Nat} {B : Nat → Nat} {p b e c : Nat} (k : Tk t B p b e c) : p ≤ b ∧ b ≤ e ∧ e ≤ t ∧ c ≤ 3 := ⟨k.1, k.2.1, k.2.2.1, by rw [k.2.2.2.2.2.1]; exact cls_le⟩
section PARSE
variable {t : Nat} {B : Nat → Nat} {τc τm : Sg} {p b e c : Nat}
theorem TX.ff {υc υm : Sg} (x : TX t B τc τm) (a : ag fC' τc υc) (b : ag fM' τm υm) : TX t B υc υm := x.fr a b (by simp [fC']) (fun j => by simp [fC']) (by simp [fM']) (fun j => by simp [fM'])
theorem CT.ff {υc : Sg} (k : CT t B τc p b e c) (h2 : rd_ υc 20 2 = rd_ τc 20 2) (h3 : rd_ υc 20 3 = rd_ τc 20 3) (h4 : rd_ υc 20 4 = rd_ τc 20 4) : CT t B υc p b e c := ⟨h2.trans k.1, h3.trans k.2.1, h4.trans k.2.2.1, k.2.2.2⟩
theorem stepN (h : NS t B τc τm p b e c) : ∃ υc υm b' e' c', C8_step_0 τc = some ((), υc) ∧ M_nextToken_0 τm = some ((), υm) ∧ NS t B υc υm e b' e' c' ∧ ag fC' τc υc ∧ ag fM' τm υm := by
  obtain ⟨x, kc, km, f1, f2⟩ := h
  obtain ⟨b', e', c', k⟩ := Tk_ex (t := t) (B := B) (p := e) kc.2.2.2.2.2.1
  obtain ⟨υc, a1, a2, a3⟩ := cstepT x kc.2.1 k
  obtain ⟨υm, b1, b2, b3⟩ := mnext x km.2.1 k
  have a1' : ag fC' τc υc := a1.mo (fun k j q => ⟨q.1, q.2.1⟩)
  have b1' : ag fM' τm υm := b1.mo (fun k j q => ⟨q.1, q.2.1, by have := q.2.2; omega⟩)
  refine ⟨υc, υm, b', e', c', a3, b3, ⟨x.ff a1' b1', a2, b2, ?_, ?_⟩, a1', b1'⟩
  · rw [a1.1 _ _ (by unfold pC; omega)]; exact f1
  · rw [b1.1 _ _ (by unfold pM; omega)]; exact f2
theorem stepF (h : FS t B τc τm) : ∃ υc, C8_step_0 τc = some ((), υc) ∧ FS t B υc τm ∧ ag fC' τc υc := by
  obtain ⟨x, ⟨p, b, e, c, kc⟩, ⟨p2, b2, e2, c2, km, f1⟩, f2⟩ := h
  obtain ⟨b', e', c', k⟩ := Tk_ex (t := t) (B := B) (p := e) kc.2.2.2.2.2.1
  obtain ⟨υc, a1, a2, a3⟩ := cstepT x kc.2.1 k
  have a1' : ag fC' τc υc := a1.mo (fun k j q => ⟨q.1, q.2.1⟩)
  refine ⟨υc, a3, ⟨x.ff a1' ag.rf, ⟨e, b', e', c', a2⟩, ⟨p2, b2, e2, c2, km, ?_⟩, f2⟩, a1'⟩
  rw [a1.1 _ _ (by unfold pC; omega)]; exact f1
theorem failN (h : NS t B τc τm p b e c) : C8_failHere_0 τc = some ((), wr_ τc 20 5 (nI b)) ∧ M_needs_0 τm 0 = some ((), wr_ τm 0 11 (nI 1)) ∧ FS t B (wr_ τc 20 5 (nI b)) (wr_ τm 0 11 (nI 1)) ∧ ag fC' τc (wr_ τc 20 5 (nI b)) ∧ ag fM' τm (wr_ τm 0 11 (nI 1)) := by
  obtain ⟨x, kc, km, f1, f2⟩ := h
  have a1 : ag fC' τc (wr_ τc 20 5 (nI b)) := ag.rf.wr ⟨rfl, by omega⟩
  have b1 : ag fM' τm (wr_ τm 0 11 (nI 1)) := ag.rf.wr ⟨rfl, by omega, by omega⟩
  refine ⟨?_, ?_, ⟨x.ff a1 b1, ⟨p, b, e, c, kc.ff (rd_j (by omega)) (rd_j (by omega)) (rd_j (by omega))⟩, ⟨p, b, e, c, ⟨?_, ?_, ?_, km.2.2.2.1, fun q => ?_⟩, rd_same _ _ _ _⟩, rd_same _ _ _ _⟩, a1, b1⟩
  · unfold C8_failHere_0
    rw [f1, if_neg m1_nle, kc.1, lt_eq]
  · unfold M_needs_0 M_needs_12 M_needs_17
    rw [f2, if_pos (show nI 0 = 0 from rfl), if_pos rfl, show bo_ (1 : Int32) = true from rfl, gd_tt, lt_eq, rd_same, if_neg (by decide)]
    rfl
  · rw [rd_j (by omega)]; exact km.1
  · rw [rd_j (by omega)]; exact km.2.1
  · rw [rd_j (by omega)]; exact km.2.2.1
  · rw [rd_j (by omega)]; exact km.2.2.2.2 q
theorem failF (h : FS t B τc τm) : C8_failHere_0 τc = some ((), τc) := by
  obtain ⟨x, -, ⟨p2, b2, e2, c2, km, f1⟩, f2⟩ := h
  have := km.2.2.2.1.le
  have := x.1
  unfold C8_failHere_0
  rw [f1, if_pos (nI_pos' (by omega))]
theorem needsF {v : Int32} (h : FS t B τc τm) : M_needs_0 τm v = some ((), τm) := by
  unfold M_needs_0 M_needs_12 M_needs_17
  rw [h.2.2.2, if_neg (by decide), show bo_ (1 : Int32) = true from rfl, gd_tt, lt_eq, wr_self (show rd_ τm 0 11 = 1 from h.2.2.2), h.2.2.2, if_neg (by decide)]
theorem needs1 {υ : Sg} (h : rd_ τm 0 11 = nI 0) (e1 : M_nextToken_0 τm = some ((), υ)) : M_needs_0 τm 1 = some ((), υ) := by
  unfold M_needs_0 M_needs_17
  rw [h, if_pos (show nI 0 = 0 from rfl), if_neg (by decide), show bo_ (0 : Int32) = true from rfl, gd_tt, lt_eq, wr_self (show rd_ τm 0 11 = 0 from h), h, if_pos (show nI 0 = 0 from rfl), e1, bi_some]
/-- a name that must stand here -/
theorem nameN {z : Nat} (hz : z < 18) (h : NS t B τc τm p b e c) : (∃ υc υm b' e' c', C8_name_0 τc z = some ((), υc) ∧ M_needs_0 τm (nI (nb1 (qn B z b e c))) = some ((), υm) ∧ NS t B υc υm e b' e' c' ∧ ag fC' τc υc ∧ ag fM' τm υm) ∨ (∃ υc υm, C8_name_0 τc z = some ((), υc) ∧ M_needs_0 τm (nI (nb1 (qn B z b e c))) = some ((), υm) ∧ FS t B υc υm ∧ ag fC' τc υc ∧ ag fM' τm υm) := by
  have hn := cisName h.1 h.2.1 hz
  unfold C8_name_0
  rw [hn, bi_some]
  cases qn B z b e c
  · right
    obtain ⟨f1, f2, f3, f4, f5⟩ := failN h
    refine ⟨_, _, ?_, f2, f3, f4, f5⟩
    rw [if_pos (by decide), f1, bi_some]
  · left
    obtain ⟨υc, υm, b', e', c', s1, s2, s3, s4, s5⟩ := stepN h
    refine ⟨υc, υm, b', e', c', ?_, needs1 h.2.2.2.2 s2, s3, s4, s5⟩
    rw [if_neg (by decide), s1, bi_some]
theorem nameF {z : Nat} (hz : z < 18) (h : FS t B τc τm) : ∃ υc, C8_name_0 τc z = some ((), υc) ∧ FS t B υc τm ∧ ag fC' τc υc := by
  obtain ⟨p, b, e, c, kc⟩ := h.2.1
  unfold C8_name_0
  rw [cisName h.1 kc hz, bi_some]
  cases qn B z b e c
  · exact ⟨τc, by rw [if_pos (by decide), failF h, bi_some], h, ag.rf⟩
  · obtain ⟨υc, s1, s2, s3⟩ := stepF h
    exact ⟨υc, by rw [if_neg (by decide), s1, bi_some], s2, s3⟩
/-- a number -/
theorem cvalue (x : TX t B τc τm) (k : CT t B τc p b e c) : C8_valueTold_0 τc = some (if c = 2 ∧ e - b ≤ 3 then nI (vl B b (e - b)) else -1, τc) := by
  obtain ⟨c2, c3, c4, k⟩ := k
  have hl := k.le
  obtain ⟨k1, k2, k3, k4, k5, k6, k7⟩ := k
  have ht := x.1
  unfold C8_valueTold_0
  rw [c4]
  by_cases h1 : c = 2
  · rw [if_pos (show nI c = (2 : Int32) by rw [h1]; rfl), c3, c2, pk_sub k2]
    by_cases h2 : e - b ≤ 3
    · rw [if_pos (show nI (e - b) ≤ (3 : Int32) from nI_le (b := 3) h2 (by omega)), if_pos ⟨h1, h2⟩, lt_eq]
      have hd : ∀ q, b ≤ q → q < e → q < t ∧ 48 ≤ B q ∧ B q ≤ 57 := fun q g1 g2 => by
        rcases k7 with z | z | ⟨z, z1, z2, z3⟩
        · omega
        · omega
        · exact cls2.mp ((z2 q g1 g2).trans h1)
      have := lg3 (F := C8_valueTold_30) (z := fun _ _ _ => none) (e - b) (fun _ => τc) (fun i => nI (vl B b i)) (fun i => nI (b + i)) (some (nI (vl B b (e - b)), τc)) ?_ ?_ (FU_gt (by omega))
      · exact this
      · intro K i hi
        have hdi := hd (b + i) (by omega) (by omega)
        have h10 := vl_3 (B := B) (b := b) i (by omega) (fun q hq => (hd (b + q) (by omega) (by omega)).2)
        have hp : 10 ^ i ≤ 10 ^ 2 := Nat.pow_le_pow_right (by omega) (by omega)
        have es : sgb (B (b + i)) = nI (B (b + i)) := if_pos (by omega)
        unfold C8_valueTold_30
        rw [c3, if_neg (nI_ge (by omega) (by omega)), cbyteAt x (by omega), bi_some, if_pos hdi.1, es, lt_eq, lt_eq, show (10 : Int32) = nI 10 from rfl, pk_mul, nI_add, show (48 : Int32) = nI 48 from rfl, pk_sub (by omega), show (1 : Int32) = nI 1 from rfl, nI_add, vl, if_pos (by omega), Nat.mul_comm, Nat.add_assoc b]
      · intro K
        unfold C8_valueTold_30
        rw [c3, show b + (e - b) = e by omega, if_pos (Int32.le_refl _)]
    · rw [if_neg (show ¬ nI (e - b) ≤ (3 : Int32) from nI_ge (a := 3) (by omega) (by omega)), if_neg (fun q => h2 q.2)]
  · rw [if_neg (show ¬ nI c = (2 : Int32) from fun q => h1 ((nI_eq (b := 2) (by omega) (by omega)).mp q)), if_neg (fun q => h1 q.1)]
def nok (B : Nat → Nat) (b e c most : Nat) : Prop := c = 2 ∧ e - b ≤ 3 ∧ vl B b (e - b) ≤ most
theorem vl_lt (k : Tk t B p b e c) (hc : c = 2) : vl B b (e - b) ≤ 9999 := by
  obtain ⟨k1, k2, k3, k4, k5, k6, k7⟩ := k
  refine vl_le _ (fun q hq => ?_)
  rcases k7 with z | z | ⟨z, z1, z2, z3⟩
  · omega
  · omega
  · exact (cls2.mp ((z2 (b + q) (by omega) (by omega)).trans hc)).2
theorem cwv {most : Nat} (k : Tk t B p b e c) (hm : most ≤ 99) : C_within_0 (if c = 2 ∧ e - b ≤ 3 then nI (vl B b (e - b)) else -1) (nI most) = some (nI (nb1 (dcd (nok B b e c most)))) := by
  by_cases h : c = 2 ∧ e - b ≤ 3
  · have hv := vl_lt k h.1
    rw [if_pos h]
    by_cases g : vl B b (e - b) ≤ most
    · rw [cw1 g (by omega), dcd_t ⟨h.1, h.2, g⟩]; rfl
    · rw [cw0 (Or.inr (nI_lt (by omega) (by omega))), dcd_f (fun q => g q.2.2)]; rfl
  · rw [if_neg h, cw0 (Or.inl (by decide)), dcd_f (fun q => h ⟨q.1, q.2.1⟩)]; rfl
theorem mnumber {most : Nat} {x1 : Int32} (k : MT t B τm p b e c) (ht : t ≤ 200) (hm : most ≤ 99) : M_numberTo_0 τm x1 (nI most) = M_numberTo_34 τm x1 (nI (nb1 (dcd (nok B b e c most)))) := by
  obtain ⟨m8, m9, m7, k, mv⟩ := k
  have hl := k.le
  unfold M_numberTo_0 M_numberTo_33
  rw [m7]
  by_cases h1 : c = 2
  · rw [if_pos (show nI c = (2 : Int32) by rw [h1]; rfl), m9, m8, pk_sub hl.2.1, mv h1]
    have hv := vl_lt k h1
    by_cases h2 : e - b ≤ 3
    · rw [if_neg (show ¬ (3 : Int32) < nI (e - b) from nI_nlt (a := 3) h2 (by omega))]
      by_cases g : vl B b (e - b) ≤ most
      · rw [if_neg (nI_nlt g (by omega)), dcd_t ⟨h1, h2, g⟩]; rfl
      · rw [if_pos (nI_lt (by omega) (by omega)), dcd_f (fun q => g q.2.2)]; rfl
    · rw [if_pos (show (3 : Int32) < nI (e - b) from nI_lt (a := 3) (by omega) (by omega)), dcd_f (fun q => h2 q.2.1)]; rfl
  · rw [if_neg (show ¬ nI c = (2 : Int32) from fun q => h1 ((nI_eq (b := 2) (by omega) (by omega)).mp q)), dcd_f (fun q => h1 q.1)]; rfl
theorem numN {most at' : Nat} (hm : most ≤ 99) (ha : at' < 64) (h : NS t B τc τm p b e c) : (∃ υc υm b' e' c' v, v ≤ most ∧ C8_number_0 τc (nI most) = some (nI v, υc) ∧ M_numberTo_0 τm (nI at') (nI most) = some ((), υm) ∧ NS t B υc υm e b' e' c' ∧ b < e ∧ ag fC' τc υc ∧ ag fM' (wr_ τm 1 at' (nI v)) υm) ∨ (∃ υc υm, C8_number_0 τc (nI most) = some (nI 0, υc) ∧ (∀ x1, M_numberTo_0 τm x1 (nI most) = some ((), υm)) ∧ FS t B υc υm ∧ ag fC' τc υc ∧ ag fM' τm υm) := by
  obtain ⟨x, kc, km, f1, f2⟩ := id h
  have ht := x.1
  have hl := kc.2.2.2.le
  have hC : C8_number_0 τc (nI most) = if nI (nb1 (dcd (nok B b e c most))) = 0 then (bi_ (C8_failHere_0 τc) fun _ σ_8 => C8_number_17 σ_8 (if c = 2 ∧ e - b ≤ 3 then nI (vl B b (e - b)) else -1)) else C8_number_17 τc (if c = 2 ∧ e - b ≤ 3 then nI (vl B b (e - b)) else -1) := by
    unfold C8_number_0
    rw [cvalue x kc, bi_some, cwv kc.2.2.2 hm, bp_some]
  by_cases g : nok B b e c most
  · left
    have h' : NS t B τc (wr_ τm 1 at' (nI (vl B b (e - b)))) p b e c := by
      have a : ag (fun k _ => k = 1) τm (wr_ τm 1 at' (nI (vl B b (e - b)))) := ag.rf.wr rfl
      refine ⟨x.fr (ag.rf (S := fun _ _ => False)) a (by simp) (fun j => by simp) (by simp) (fun j => by simp), kc, ⟨?_, ?_, ?_, km.2.2.2.1, fun q => ?_⟩, f1, ?_⟩
      · rw [rd_k (by omega)]; exact km.1
      · rw [rd_k (by omega)]; exact km.2.1
      · rw [rd_k (by omega)]; exact km.2.2.1
      · rw [rd_k (by omega)]; exact km.2.2.2.2 q
      · rw [rd_k (by omega)]; exact f2
    obtain ⟨υc, υm, b', e', c', s1, s2, s3, s4, s5⟩ := stepN h'
    refine ⟨υc, υm, b', e', c', vl B b (e - b), g.2.2, ?_, ?_, s3, ?_, s4, s5⟩
    · rw [hC, dcd_t g, if_neg (by decide), if_pos ⟨g.1, g.2.1⟩]
      unfold C8_number_17
      rw [f1, if_pos m1_neg, s1, bi_some]
    · rw [mnumber km ht hm, dcd_t g]
      unfold M_numberTo_34 M_numberTo_56
      rw [if_neg (by decide), f2, if_pos (show nI 0 = 0 from rfl), in_nI ha (by omega), gd_tt, nI_clamp (by omega), lt_eq, km.2.2.2.2 g.1, show nI (nb1 true) = (1 : Int32) from rfl, needs1 h'.2.2.2.2 s2, bi_some]
    · rcases kc.2.2.2.2.2.2.2.2.2 with z | z | z
      · have := g.1; omega
      · have := g.1; omega
      · exact z.2.1
  · right
    obtain ⟨g1, g2, g3, g4, g5⟩ := failN h
    refine ⟨_, _, ?_, fun x1 => ?_, g3, g4, g5⟩
    · rw [hC, dcd_f g, if_pos (by decide), g1, bi_some]
      unfold C8_number_17
      rw [rd_same, if_neg (nI_pos (by omega))]
      rfl
    · rw [mnumber km ht hm, dcd_f g]
      unfold M_numberTo_34 M_numberTo_56
      rw [if_pos (by decide), show nI (nb1 false) = (0 : Int32) from rfl, g2, bi_some]
theorem numF {most : Nat} (hm : most ≤ 99) (h : FS t B τc τm) : C8_number_0 τc (nI most) = some (nI 0, τc) ∧ ∀ x1, M_numberTo_0 τm x1 (nI most) = some ((), τm) := by
  obtain ⟨x, ⟨p1, b1, e1, c1, kc⟩, ⟨p2, b2, e2, c2, km, f1⟩, f2⟩ := id h
  have ht := x.1
  have hl := km.2.2.2.1.le
  constructor
  · unfold C8_number_0 C8_number_17
    rw [cvalue x kc, bi_some, cwv kc.2.2.2 hm, bp_some, failF h, bi_some, f1, if_neg (nI_pos (by omega))]
    cases dcd (nok B b1 e1 c1 most)
    · rw [if_pos (by decide)]; rfl
    · rw [if_neg (by decide)]; rfl
  · intro x1
    rw [mnumber km ht hm]
    unfold M_numberTo_34 M_numberTo_56
    rw [needsF h, bi_some, f2, if_neg (show ¬ nI 1 = 0 by decide)]
    cases dcd (nok B b2 e2 c2 most)
    · rw [if_pos (by decide)]
    · rw [if_neg (by decide)]
/-- what may stand here -/
theorem optN {z most at' u : Nat} (hz : z < 18) (hm : most ≤ 99) (ha : at' < 64) (hu : u ≤ most) (h : NS t B τc τm p b e c) : (∃ υc υm p' b' e' c' v, v ≤ most ∧ C8_option_0 τc z (nI most) (nI u) = some (nI v, υc) ∧ M_perhaps_0 τm (nI (nb1 (qn B z b e c))) (nI at') (nI most) = some ((), υm) ∧ NS t B υc υm p' b' e' c' ∧ e ≤ e' ∧ ag fC' τc υc ∧ ((v = u ∧ ag fM' τm υm) ∨ ag fM' (wr_ τm 1 at' (nI v)) υm)) ∨ (∃ υc υm r, C8_option_0 τc z (nI most) (nI u) = some (r, υc) ∧ M_perhaps_0 τm (nI (nb1 (qn B z b e c))) (nI at') (nI most) = some ((), υm) ∧ FS t B υc υm ∧ ag fC' τc υc ∧ ag fM' τm υm) := by
  obtain ⟨x, kc, km, f1, f2⟩ := id h
  have hC : C8_option_0 τc z (nI most) (nI u) = if nI (nb1 (qn B z b e c)) = 0 then some (nI u, τc) else bi_ (C8_step_0 τc) fun _ σ_7 => bi_ (C8_number_0 σ_7 (nI most)) fun r_10 σ_9 => some (r_10, σ_9) := by
    unfold C8_option_0
    rw [f1, if_neg m1_nle, cisName x kc hz, bi_some]
  have hM : M_perhaps_0 τm (nI (nb1 (qn B z b e c))) (nI at') (nI most) = if nI (nb1 (qn B z b e c)) = 0 then some ((), τm) else bi_ (M_nextToken_0 τm) fun _ σ_4 => bi_ (M_numberTo_0 σ_4 (nI at') (nI most)) fun _ σ_6 => some ((), σ_6) := by
    unfold M_perhaps_0
    rw [f2, if_pos (show nI 0 = 0 from rfl)]
  generalize qn B z b e c = Q at hC hM ⊢
  cases Q
  · left
    refine ⟨τc, τm, p, b, e, c, u, hu, ?_, ?_, h, Nat.le_refl _, ag.rf, Or.inl ⟨rfl, ag.rf⟩⟩
    · rw [hC, if_pos (by decide)]
    · rw [hM, if_pos (by decide)]
  · obtain ⟨υc, υm, b', e', c', s1, s2, s3, s4, s5⟩ := stepN h
    have le1 := s3.2.1.2.2.2.le
    rcases numN hm ha s3 with ⟨ωc, ωm, b2, e2, c2, v, hv, n1, n2, n3, n4, n5, n6⟩ | ⟨ωc, ωm, n1, n2, n3, n4, n5⟩
    · left
      have le2 := n3.2.1.2.2.2.le
      refine ⟨ωc, ωm, e', b2, e2, c2, v, hv, ?_, ?_, n3, by omega, s4.tr n5, Or.inr ?_⟩
      · rw [hC, if_neg (by decide), s1, bi_some, n1, bi_some]
      · rw [hM, if_neg (by decide), s2, bi_some, n2, bi_some]
      · refine ⟨fun k j hk => ?_, fun i => (n6.2 i).trans (s5.2 i)⟩
        rw [n6.1 k j hk, rd_wr, rd_wr]
        by_cases w : k = 1 ∧ j = at'
        · rw [if_pos w, if_pos w]
        · rw [if_neg w, if_neg w]; exact s5.1 k j hk
    · right
      refine ⟨ωc, ωm, nI 0, ?_, ?_, n3, s4.tr n4, s5.tr n5⟩
      · rw [hC, if_neg (by decide), s1, bi_some, n1, bi_some]
      · rw [hM, if_neg (by decide), s2, bi_some, n2, bi_some]
theorem optF {z most : Nat} {u q at' : Int32} (h : FS t B τc τm) : C8_option_0 τc z (nI most) u = some (u, τc) ∧ M_perhaps_0 τm q at' (nI most) = some ((), τm) := by
  obtain ⟨x, -, ⟨p2, b2, e2, c2, km, f1⟩, f2⟩ := id h
  have ht := x.1
  have hl := km.2.2.2.1.le
  constructor
  · unfold C8_option_0
    rw [f1, if_pos (nI_pos' (by omega))]
  · unfold M_perhaps_0
    rw [f2, if_neg (by decide)]
/-- the end of a statement -/
theorem semiN (h : NS t B τc τm p b e c) : (∃ υc υm b' e' c', C8_semicolon_0 τc = some ((), υc) ∧ M_itemHere_105 τm = some ((), υm) ∧ NS t B υc υm e b' e' c' ∧ b < e ∧ ag fC' τc υc ∧ ag fM' τm υm) ∨ (∃ υc υm, C8_semicolon_0 τc = some ((), υc) ∧ M_itemHere_105 τm = some ((), υm) ∧ FS t B υc υm ∧ ag fC' τc υc ∧ ag fM' τm υm) := by
  obtain ⟨x, kc, km, f1, f2⟩ := id h
  have ht := x.1
  have hl := kc.2.2.2.le
  obtain ⟨g1, g2, g3, g4, g5⟩ := failN h
  unfold C8_semicolon_0 C8_semicolon_28 M_itemHere_105 M_itemHere_131 M_itemHere_132
  rw [kc.2.2.1, km.2.2.1]
  by_cases h3 : c = 3
  · rw [if_pos (show nI c = (3 : Int32) by rw [h3]; rfl), if_pos (show nI c = (3 : Int32) by rw [h3]; rfl), kc.1, km.1, cbyteAt x (by omega), mbyteAt x (by omega), bi_some, bi_some, show (59 : Int32) = nI 59 from rfl]
    by_cases hb : b < t ∧ B b = 59
    · left
      obtain ⟨υc, υm, b', e', c', s1, s2, s3, s4, s5⟩ := stepN h
      refine ⟨υc, υm, b', e', c', ?_, ?_, s3, ?_, s4, s5⟩
      · rw [if_pos ((cb_eq x (k := 59) (by omega) (by omega)).mpr hb), s1, bi_some]
      · rw [if_pos ((mb_eq x (k := 59) (by omega)).mpr hb), needs1 f2 s2, bi_some]
      · rcases kc.2.2.2.2.2.2.2.2.2 with z | z | z
        · omega
        · omega
        · exact z.2.1
    · right
      refine ⟨_, _, ?_, ?_, g3, g4, g5⟩
      · rw [if_neg (fun w => hb ((cb_eq x (k := 59) (by omega) (by omega)).mp w)), g1, bi_some]
      · rw [if_neg (fun w => hb ((mb_eq x (k := 59) (by omega)).mp w)), g2, bi_some]
  · right
    have n3 : ¬ nI c = (3 : Int32) := fun q => h3 ((nI_eq (b := 3) (by omega) (by omega)).mp q)
    refine ⟨_, _, ?_, ?_, g3, g4, g5⟩
    · rw [if_neg n3, g1, bi_some]
    · rw [if_neg n3, g2, bi_some]
theorem semiF (h : FS t B τc τm) : ∃ υc, C8_semicolon_0 τc = some ((), υc) ∧ M_itemHere_105 τm = some ((), τm) ∧ FS t B υc τm ∧ ag fC' τc υc := by
  obtain ⟨x, ⟨p1, b1, e1, c1, kc⟩, ⟨p2, b2, e2, c2, km, f1⟩, f2⟩ := id h
  have ht := x.1
  have hl := km.2.2.2.1.le
  have hl1 := kc.2.2.2.le
  have hM : M_itemHere_105 τm = some ((), τm) := by
    unfold M_itemHere_105 M_itemHere_131 M_itemHere_132
    obtain ⟨w, hby⟩ : ∃ w, M_byteAt_0 τm (nI b2) = some (w, τm) := ⟨_, mbyteAt x (by omega)⟩
    simp only [needsF h, bi_some, km.1, hby]
    split
    · split <;> rfl
    · rfl
  have hC : C8_semicolon_0 τc = some ((), τc) ∨ C8_semicolon_0 τc = bi_ (C8_step_0 τc) fun _ σ => some ((), σ) := by
    unfold C8_semicolon_0 C8_semicolon_28
    obtain ⟨w, hby⟩ : ∃ w, C8_byteAt_0 τc (nI b1) = some (w, τc) := ⟨_, cbyteAt x (by omega)⟩
    simp only [kc.1, hby, bi_some, failF h]
    split
    · split
      · exact Or.inr rfl
      · exact Or.inl rfl
    · exact Or.inl rfl
  rcases hC with hC | hC
  · exact ⟨τc, hC, hM, h, ag.rf⟩
  · obtain ⟨υc, s1, s2, s3⟩ := stepF h
    exact ⟨υc, by rw [hC, s1, bi_some], hM, s2, s3⟩
end PARSE
