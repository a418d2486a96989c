theorem vl_le {B : Nat → Nat} {b : Nat} (i : Nat) (h : ∀ q, q < i → 48 ≤ B (b + q) ∧ B (b + q) ≤ 57) : vl B b i ≤ 9999 := by
  induction i with
  | zero => exact Nat.zero_le _
  | succ i ih =>
    have h1 := h i (by omega)
    have h2 := ih (fun q hq => h q (by omega))
    unfold vl
    split <;> omega
theorem vl_3 {B : Nat → Nat} {b : Nat} (i : Nat) (h3 : i ≤ 3) (h : ∀ q, q < i → 48 ≤ B (b + q) ∧ B (b + q) ≤ 57) : vl B b i < 10 ^ i := by
  induction i with
  | zero => exact Nat.one_pos
  | succ i ih =>
    have h1 := h i (by omega)
    have h2 := ih (by omega) (fun q hq => h q (by omega))
    have h4 : 10 ^ i ≤ 10 ^ 2 := Nat.pow_le_pow_right (by omega) (by omega)
    unfold vl
    rw [if_pos (by omega), Nat.pow_succ]
    omega
section NEXT
variable {t : Nat} {B : Nat → Nat} {τc τm : Sg}
theorem m201 {υ : Sg} {c q : Nat} (hc : c ≤ 3) (e7 : rd_ υ 0 7 = nI c) (e9 : rd_ υ 0 9 = nI q) : M_nextToken_201 υ = some ((), wr_ υ 0 9 (nI (if c = 3 then q + 1 else q))) := by
  unfold M_nextToken_201 M_nextToken_219
  rw [e7, e9]
  by_cases z : c = 3
  · subst z
    rw [if_neg (by decide), lt_eq, if_pos rfl, show (1 : Int32) = nI 1 from rfl, nI_add]
  · rw [if_pos (show nI c ≤ (2 : Int32) from nI_le (b := 2) (by omega) (by omega)), lt_eq, if_neg z, show (0 : Int32) = nI 0 from rfl, nI_add]
    rfl
theorem m126o {υ : Sg} {c : Nat} (hc : c ≤ 3) (h2 : ¬ c = 2) (e7 : rd_ υ 0 7 = nI c) : lp_ M_nextToken_126 (fun _ => none) FU υ = M_nextToken_201 υ := by
  rw [lp300]
  show M_nextToken_126 _ υ = _
  unfold M_nextToken_126
  rw [e7, if_neg (show ¬ nI c = (2 : Int32) from fun q => h2 ((nI_eq (b := 2) (by omega) (by omega)).mp q))]
theorem m91o {υ : Sg} {c : Nat} (hc : c ≤ 3) (h1 : ¬ c = 1) (e7 : rd_ υ 0 7 = nI c) : lp_ M_nextToken_91 (fun _ => none) FU υ = lp_ M_nextToken_126 (fun _ => none) FU υ := by
  rw [lp300]
  show M_nextToken_91 _ υ = _
  unfold M_nextToken_91
  rw [e7, if_neg (show ¬ nI c = (1 : Int32) from fun q => h1 ((nI_eq (b := 1) (by omega) (by omega)).mp q))]
theorem mnext {p b e c : Nat} (x : TX t B τc τm) (ep : rd_ τm 0 9 = nI p) (k : Tk t B p b e c) : ∃ τ, ag pM τm τ ∧ MT t B τ p b e c ∧ M_nextToken_0 τm = some ((), τ) := by
  obtain ⟨k1, k2, k3, k4, k5, k6, k7⟩ := id k
  have ht := x.1
  have hc3 : c ≤ 3 := by rw [k6]; exact cls_le
  have xx : ∀ {υ : Sg}, ag pM τm υ → TX t B τc υ := fun a => x.fr (ag.rf (S := fun _ _ => False)) a (by simp) (fun j => by simp) (by simp [pM]) (fun j => by simp [pM])
  have pm : ∀ {j : Nat}, 7 ≤ j → j ≤ 10 → pM 0 j := fun h1 h2 => ⟨rfl, h1, h2⟩
  have s83 : ∀ {υ : Sg}, ag pM τm υ → rd_ υ 0 8 = nI b → rd_ υ 0 9 = nI b → ∃ τ, ag pM τm τ ∧ MT t B τ p b e c ∧ M_nextToken_83 υ (nI c) = some ((), τ) := by
    intro υ a e8 e9
    have a1 : ag pM τm (wr_ (wr_ υ 0 7 (nI c)) 0 10 (nI 0)) := (a.wr (pm (by omega) (by omega))).wr (pm (by omega) (by omega))
    have f7 : rd_ (wr_ (wr_ υ 0 7 (nI c)) 0 10 (nI 0)) 0 7 = nI c := by rw [rd_j (by omega), rd_same]
    have f8 : rd_ (wr_ (wr_ υ 0 7 (nI c)) 0 10 (nI 0)) 0 8 = nI b := by rw [rd_j (by omega), rd_j (by omega)]; exact e8
    have f9 : rd_ (wr_ (wr_ υ 0 7 (nI c)) 0 10 (nI 0)) 0 9 = nI b := by rw [rd_j (by omega), rd_j (by omega)]; exact e9
    have f10 : rd_ (wr_ (wr_ υ 0 7 (nI c)) 0 10 (nI 0)) 0 10 = nI 0 := rd_same _ _ _ _
    have h83 : M_nextToken_83 υ (nI c) = lp_ M_nextToken_91 (fun _ => none) FU (wr_ (wr_ υ 0 7 (nI c)) 0 10 (nI 0)) := by
      unfold M_nextToken_83
      rw [lt_eq, lt_eq]
      rfl
    rw [h83]
    generalize wr_ (wr_ υ 0 7 (nI c)) 0 10 (nI 0) = υ1 at a1 f7 f8 f9 f10
    rcases k7 with ⟨z, ze⟩ | ⟨z, ze⟩ | ⟨z, ze1, ze2, ze3⟩
    · subst z
      refine ⟨wr_ υ1 0 9 (nI (if (0 : Nat) = 3 then b + 1 else b)), a1.wr (pm (by omega) (by omega)), ⟨by rw [rd_j (by omega)]; exact f8, by rw [rd_same, if_neg (by omega), ze], by rw [rd_j (by omega)]; exact f7, k, fun q => absurd q (by omega)⟩, ?_⟩
      rw [m91o (by omega) (by omega) f7, m126o (by omega) (by omega) f7, m201 (by omega) f7 f9]
    · subst z
      refine ⟨wr_ υ1 0 9 (nI (if (3 : Nat) = 3 then b + 1 else b)), a1.wr (pm (by omega) (by omega)), ⟨by rw [rd_j (by omega)]; exact f8, by rw [rd_same, if_pos rfl, ze], by rw [rd_j (by omega)]; exact f7, k, fun q => absurd q (by omega)⟩, ?_⟩
      rw [m91o (by omega) (by omega) f7, m126o (by omega) (by omega) f7, m201 (by omega) f7 f9]
    · rcases z with z | z
      · subst z
        have key := lj1' (F := M_nextToken_91) (z := fun _ => none) (e - b) (fun i υ2 => ag pM τm υ2 ∧ rd_ υ2 0 7 = nI 1 ∧ rd_ υ2 0 8 = nI b ∧ rd_ υ2 0 9 = nI (b + i)) (fun τ => ag pM τm τ ∧ MT t B τ p b e 1) (fun τ => some ((), τ)) υ1 ⟨a1, f7, f8, f9⟩ ?_ ?_ (FU_gt (N := e - b) (by omega))
        · obtain ⟨τ, ⟨h1, h2⟩, h3⟩ := key
          exact ⟨τ, h1, h2, h3⟩
        · rintro K i υ2 hi ⟨a2, g7, g8, g9⟩
          have hcl := ze2 (b + i) (by omega) (by omega)
          refine Or.inl ⟨wr_ υ2 0 9 (nI (b + (i + 1))), ⟨a2.wr (pm (by omega) (by omega)), by rw [rd_j (by omega)]; exact g7, by rw [rd_j (by omega)]; exact g8, rd_same _ _ _ _⟩, ?_⟩
          unfold M_nextToken_91
          rw [g7, if_pos (by decide), g9, mbyteAt (xx a2) (by omega), bi_some, malpha (xx a2), bp_some, if_pos hcl, if_neg (by decide), lt_eq, g9, show (1 : Int32) = nI 1 from rfl, nI_add, Nat.add_assoc]
        · rintro K υ2 ⟨a2, g7, g8, g9⟩
          rw [show b + (e - b) = e by omega] at g9
          refine ⟨wr_ υ2 0 9 (nI (if (1 : Nat) = 3 then e + 1 else e)), ⟨a2.wr (pm (by omega) (by omega)), by rw [rd_j (by omega)]; exact g8, by rw [rd_same, if_neg (by omega)], by rw [rd_j (by omega)]; exact g7, k, fun q => absurd q (by omega)⟩, ?_⟩
          unfold M_nextToken_91
          rw [g7, if_pos (by decide), g9, mbyteAt (xx a2) (by omega), bi_some, malpha (xx a2), bp_some, if_neg ze3, if_pos (by decide), m126o (by omega) (by omega) g7, m201 (by omega) g7 g9]
      · subst z
        rw [m91o (by omega) (by omega) f7]
        have hd : ∀ q, q < e - b → 48 ≤ B (b + q) ∧ B (b + q) ≤ 57 := fun q hq => (cls2.mp (ze2 (b + q) (by omega) (by omega))).2
        have key := lj1' (F := M_nextToken_126) (z := fun _ => none) (e - b) (fun i υ2 => ag pM τm υ2 ∧ rd_ υ2 0 7 = nI 2 ∧ rd_ υ2 0 8 = nI b ∧ rd_ υ2 0 9 = nI (b + i) ∧ rd_ υ2 0 10 = nI (vl B b i)) (fun τ => ag pM τm τ ∧ MT t B τ p b e 2) (fun τ => some ((), τ)) υ1 ⟨a1, f7, f8, f9, f10⟩ ?_ ?_ (FU_gt (N := e - b) (by omega))
        · obtain ⟨τ, ⟨h1, h2⟩, h3⟩ := key
          exact ⟨τ, h1, h2, h3⟩
        · rintro K i υ2 hi ⟨a2, g7, g8, g9, g10⟩
          have hcl := ze2 (b + i) (by omega) (by omega)
          have hdi := hd i hi
          have hvl := vl_le (B := B) (b := b) i (fun q hq => hd q (by omega))
          refine Or.inl ⟨wr_ (wr_ υ2 0 10 (nI (vl B b (i + 1)))) 0 9 (nI (b + (i + 1))), ⟨(a2.wr (pm (by omega) (by omega))).wr (pm (by omega) (by omega)), by rw [rd_j (by omega), rd_j (by omega)]; exact g7, by rw [rd_j (by omega), rd_j (by omega)]; exact g8, rd_same _ _ _ _, by rw [rd_j (by omega), rd_same]⟩, ?_⟩
          have e185 : ∀ w, M_nextToken_185 K υ2 w = K (wr_ (wr_ υ2 0 10 w) 0 9 (nI (b + (i + 1)))) := fun w => by
            unfold M_nextToken_185
            rw [lt_eq, lt_eq, rd_j (by omega), g9, show (1 : Int32) = nI 1 from rfl, nI_add, Nat.add_assoc]
          unfold M_nextToken_126
          rw [g7, if_pos (by decide), g9, mbyteAt (xx a2) (by omega), bi_some, mdigit (xx a2), bp_some, if_pos hcl, if_neg (by decide), g10, g9, mbyteAt (xx a2) (by omega), bi_some, e185, e185, vl]
          by_cases v9 : vl B b i ≤ 999
          · rw [if_pos (show nI (vl B b i) ≤ (999 : Int32) from nI_le (b := 999) v9 (by omega)), if_pos v9, if_pos (show b + i < t by omega), show (10 : Int32) = nI 10 from rfl, pk_mul, nI_add, show (48 : Int32) = nI 48 from rfl, pk_sub (by omega)]
          · rw [if_neg (show ¬ nI (vl B b i) ≤ (999 : Int32) from nI_ge (a := 999) (by omega) (by omega)), if_neg v9]
        · rintro K υ2 ⟨a2, g7, g8, g9, g10⟩
          rw [show b + (e - b) = e by omega] at g9
          refine ⟨wr_ υ2 0 9 (nI (if (2 : Nat) = 3 then e + 1 else e)), ⟨a2.wr (pm (by omega) (by omega)), by rw [rd_j (by omega)]; exact g8, by rw [rd_same, if_neg (by omega)], by rw [rd_j (by omega)]; exact g7, k, fun _ => by rw [rd_j (by omega)]; exact g10⟩, ?_⟩
          unfold M_nextToken_126
          rw [g7, if_pos (by decide), g9, mbyteAt (xx a2) (by omega), bi_some, mdigit (xx a2), bp_some, if_neg ze3, if_pos (by decide), m201 (by omega) g7 g9]
  have key := lj1' (F := M_nextToken_8) (z := fun _ => none) (b - p) (fun i υ => ag pM τm υ ∧ rd_ υ 0 8 = nI (p + i)) (fun τ => ag pM τm τ ∧ MT t B τ p b e c) (fun τ => some ((), τ)) (wr_ τm 0 8 (nI p)) ⟨ag.rf.wr (pm (by omega) (by omega)), rd_same _ _ _ _⟩ ?_ ?_ (FU_gt (N := b - p) (by omega))
  · obtain ⟨τ, ⟨h1, h2⟩, h3⟩ := key
    refine ⟨τ, h1, h2, ?_⟩
    unfold M_nextToken_0
    rw [ep, lt_eq]
    exact h3
  · rintro K i υ hi ⟨a, e8⟩
    have hs := k4 (p + i) (by omega) (by omega)
    refine Or.inl ⟨wr_ υ 0 8 (nI (p + (i + 1))), ⟨a.wr (pm (by omega) (by omega)), rd_same _ _ _ _⟩, ?_⟩
    unfold M_nextToken_8
    rw [e8, mbyteAt (xx a) (by omega), bi_some, show (32 : Int32) = nI 32 from rfl, if_pos ((mb_eq (xx a) (by omega)).mpr hs), lt_eq, e8, show (1 : Int32) = nI 1 from rfl, nI_add, Nat.add_assoc]
  · rintro K υ ⟨a, e8⟩
    rw [show p + (b - p) = b by omega] at e8
    have a2 : ag pM τm (wr_ υ 0 9 (nI b)) := a.wr (pm (by omega) (by omega))
    have f8 : rd_ (wr_ υ 0 9 (nI b)) 0 8 = nI b := by rw [rd_j (by omega)]; exact e8
    obtain ⟨τ, h1, h2, h3⟩ := s83 a2 f8 (rd_same _ _ _ _)
    refine ⟨τ, ⟨h1, h2⟩, ?_⟩
    unfold M_nextToken_8
    rw [e8, mbyteAt (xx a) (by omega), bi_some, show (32 : Int32) = nI 32 from rfl, if_neg (fun q => k5 ((mb_eq (xx a) (by omega)).mp q)), e8, lt_eq, f8, mbyteAt (xx a2) (by omega), bi_some, malpha (xx a2), bp_some, mdigit (xx a2), bp_some]
    by_cases z0 : b < t
    · have h256 := (x.2.2.2 b z0).1
      rw [if_pos z0, if_pos (nI_pos' (by omega))]
      by_cases z1 : cls t B b = 1
      · rw [if_pos z1, if_neg (by decide)]
        rw [k6, z1] at h3
        exact h3
      · rw [if_neg z1, if_pos (by decide)]
        by_cases z2 : cls t B b = 2
        · rw [if_pos z2, if_neg (by decide)]
          rw [k6, z2] at h3
          exact h3
        · rw [if_neg z2, if_pos (by decide)]
          have z3 : cls t B b = 3 := by
            have := cls_le (t := t) (B := B) (p := b)
            have n0 : ¬ cls t B b = 0 := fun q => by have := cls0.mp q; omega
            omega
          rw [k6, z3] at h3
          exact h3
    · have z3 : cls t B b = 0 := cls0.mpr (by omega)
      rw [if_neg z0, if_neg m1_nle]
      rw [k6, z3] at h3
      exact h3
end NEXT
