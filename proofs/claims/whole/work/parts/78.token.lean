/-! the text, token by token -/
def TX (t : Nat) (B : Nat → Nat) (τc τm : Sg) : Prop := t ≤ 200 ∧ rd_ τc 20 0 = nI t ∧ rd_ τm 0 6 = nI t ∧ ∀ i, i < t → B i < 256 ∧ rd_ τm 5 i = nI (B i) ∧ rd_ τc 21 i = sgb (B i)
def cls (t : Nat) (B : Nat → Nat) (p : Nat) : Nat := if p < t then (if 97 ≤ B p ∧ B p ≤ 122 then 1 else if 48 ≤ B p ∧ B p ≤ 57 then 2 else 3) else 0
theorem cls_le {t : Nat} {B : Nat → Nat} {p : Nat} : cls t B p ≤ 3 := by
  unfold cls
  repeat' split
  all_goals omega
theorem cls0 {t : Nat} {B : Nat → Nat} {p : Nat} : cls t B p = 0 ↔ t ≤ p := by
  unfold cls
  by_cases c : p < t
  · rw [if_pos c]
    constructor
    · intro h
      repeat' split at h
      all_goals omega
    · intro h; omega
  · rw [if_neg c]
    exact ⟨fun _ => by omega, fun _ => rfl⟩
theorem cls1 {t : Nat} {B : Nat → Nat} {p : Nat} : cls t B p = 1 ↔ p < t ∧ 97 ≤ B p ∧ B p ≤ 122 := by
  unfold cls
  by_cases c : p < t
  · rw [if_pos c]
    by_cases d : 97 ≤ B p ∧ B p ≤ 122
    · rw [if_pos d]; exact ⟨fun _ => ⟨c, d⟩, fun _ => rfl⟩
    · rw [if_neg d]
      constructor
      · intro h; split at h <;> omega
      · intro h; exact absurd h.2 d
  · rw [if_neg c]; constructor <;> intro h <;> omega
theorem cls2 {t : Nat} {B : Nat → Nat} {p : Nat} : cls t B p = 2 ↔ p < t ∧ 48 ≤ B p ∧ B p ≤ 57 := by
  unfold cls
  by_cases c : p < t
  · rw [if_pos c]
    by_cases d : 97 ≤ B p ∧ B p ≤ 122
    · rw [if_pos d]; constructor <;> intro h <;> omega
    · rw [if_neg d]
      constructor
      · intro h
        by_cases e : 48 ≤ B p ∧ B p ≤ 57
        · exact ⟨c, e⟩
        · rw [if_neg e] at h; omega
      · intro h; rw [if_pos h.2]
  · rw [if_neg c]; constructor <;> intro h <;> omega
theorem sgb_eq {v k : Nat} (hv : v < 256) (hk : k < 128) : sgb v = nI k ↔ v = k := by
  have key : ∀ v : Fin 256, ∀ k : Fin 128, decide (sgb v.1 = nI k.1) = decide (v.1 = k.1) := by decide +kernel
  exact decide_eq_decide.mp (key ⟨v, hv⟩ ⟨k, hk⟩)
section TOK
variable {t : Nat} {B : Nat → Nat} {τc τm : Sg}
theorem cbyteAt {p : Nat} (x : TX t B τc τm) (hp : p < 2 ^ 30) : C8_byteAt_0 τc (nI p) = some (if p < t then sgb (B p) else nI 0, τc) := by
  obtain ⟨ht, e1, e2, w⟩ := x
  unfold C8_byteAt_0
  rw [if_neg (nI_pos (by omega)), e1]
  by_cases c : p < t
  · rw [if_neg (nI_ge c (by omega)), if_neg (show ¬ (200 : Int32) ≤ nI p from nI_ge (b := 200) (by omega) (by omega)), in_nI (by omega) (by omega), gd_tt, nI_clamp (by omega), (w p c).2.2, if_pos c]
  · rw [if_pos (nI_le (by omega) (by omega)), if_neg c]; rfl
theorem mbyteAt {p : Nat} (x : TX t B τc τm) (hp : p < 2 ^ 30) : M_byteAt_0 τm (nI p) = some (if p < t then nI (B p) else m1, τm) := by
  obtain ⟨ht, e1, e2, w⟩ := x
  unfold M_byteAt_0
  rw [e2]
  by_cases c : p < t
  · rw [if_neg (nI_ge c (by omega)), in_nI (by omega) (by omega), gd_tt, nI_clamp (by omega), (w p c).2.1, if_pos c]
  · rw [if_pos (nI_le (by omega) (by omega)), if_neg c]; rfl
theorem cb_eq {p k : Nat} (x : TX t B τc τm) (h0 : 0 < k) (hk : k < 128) : (if p < t then sgb (B p) else nI 0) = nI k ↔ p < t ∧ B p = k := by
  by_cases c : p < t
  · rw [if_pos c, sgb_eq (x.2.2.2 p c).1 hk]; exact ⟨fun h => ⟨c, h⟩, fun h => h.2⟩
  · rw [if_neg c, nI_eq (by omega) (by omega)]; constructor <;> intro h <;> omega
theorem mb_eq {p k : Nat} (x : TX t B τc τm) (hk : k < 128) : (if p < t then nI (B p) else m1) = nI k ↔ p < t ∧ B p = k := by
  by_cases c : p < t
  · have := (x.2.2.2 p c).1
    rw [if_pos c, nI_eq (by omega) (by omega)]; exact ⟨fun h => ⟨c, h⟩, fun h => h.2⟩
  · rw [if_neg c]
    constructor
    · intro h; exact absurd h.symm (m1_ne (by omega))
    · intro h; exact absurd h.1 c
theorem malpha {p : Nat} (x : TX t B τc τm) : M_isAlpha_0 (if p < t then nI (B p) else m1) = some (if cls t B p = 1 then nI 1 else nI 0) := by
  unfold M_isAlpha_0
  by_cases c : p < t
  · have := (x.2.2.2 p c).1
    rw [if_pos c]
    by_cases d : 97 ≤ B p ∧ B p ≤ 122
    · rw [if_neg (show ¬ nI (B p) < (97 : Int32) from nI_nlt (b := 97) d.1 (by omega)), if_neg (show ¬ (122 : Int32) < nI (B p) from nI_nlt (a := 122) d.2 (by omega)), if_pos (cls1.mpr ⟨c, d⟩)]; rfl
    · rw [if_neg (fun q => d (cls1.mp q).2)]
      by_cases e : B p < 97
      · rw [if_pos (show nI (B p) < (97 : Int32) from nI_lt (b := 97) e (by omega))]; rfl
      · rw [if_neg (show ¬ nI (B p) < (97 : Int32) from nI_nlt (b := 97) (by omega) (by omega)), if_pos (show (122 : Int32) < nI (B p) from nI_lt (a := 122) (by omega) (by omega))]; rfl
  · rw [if_neg c, if_pos (by decide), if_neg (fun q => c (cls1.mp q).1)]; rfl
theorem mdigit {p : Nat} (x : TX t B τc τm) : M_isDigit_0 (if p < t then nI (B p) else m1) = some (if cls t B p = 2 then nI 1 else nI 0) := by
  unfold M_isDigit_0
  by_cases c : p < t
  · have := (x.2.2.2 p c).1
    rw [if_pos c]
    by_cases d : 48 ≤ B p ∧ B p ≤ 57
    · rw [if_neg (show ¬ nI (B p) < (48 : Int32) from nI_nlt (b := 48) d.1 (by omega)), if_neg (show ¬ (57 : Int32) < nI (B p) from nI_nlt (a := 57) d.2 (by omega)), if_pos (cls2.mpr ⟨c, d⟩)]; rfl
    · rw [if_neg (fun q => d (cls2.mp q).2)]
      by_cases e : B p < 48
      · rw [if_pos (show nI (B p) < (48 : Int32) from nI_lt (b := 48) e (by omega))]; rfl
      · rw [if_neg (show ¬ nI (B p) < (48 : Int32) from nI_nlt (b := 48) (by omega) (by omega)), if_pos (show (57 : Int32) < nI (B p) from nI_lt (a := 57) (by omega) (by omega))]; rfl
  · rw [if_neg c, if_pos (by decide), if_neg (fun q => c (cls2.mp q).1)]; rfl
theorem sgb_cls {v : Nat} (hv : v < 256) : (if sgb v < (97 : Int32) then (if sgb v < (48 : Int32) then nI 3 else if (57 : Int32) < sgb v then nI 3 else nI 2) else if (122 : Int32) < sgb v then (if sgb v < (48 : Int32) then nI 3 else if (57 : Int32) < sgb v then nI 3 else nI 2) else nI 1) = nI (if 97 ≤ v ∧ v ≤ 122 then 1 else if 48 ≤ v ∧ v ≤ 57 then 2 else 3) := by
  have key : ∀ v : Fin 256, (if sgb v.1 < (97 : Int32) then (if sgb v.1 < (48 : Int32) then nI 3 else if (57 : Int32) < sgb v.1 then nI 3 else nI 2) else if (122 : Int32) < sgb v.1 then (if sgb v.1 < (48 : Int32) then nI 3 else if (57 : Int32) < sgb v.1 then nI 3 else nI 2) else nI 1) = nI (if 97 ≤ v.1 ∧ v.1 ≤ 122 then 1 else if 48 ≤ v.1 ∧ v.1 ≤ 57 then 2 else 3) := by decide +kernel
  exact key ⟨v, hv⟩
theorem csortAt {p : Nat} (x : TX t B τc τm) (hp : p < 2 ^ 30) : C8_sortAt_0 τc (nI p) = some (nI (cls t B p), τc) := by
  obtain ⟨ht, e1, e2, w⟩ := x
  unfold C8_sortAt_0 cls
  rw [if_neg (nI_pos (by omega)), e1]
  by_cases c : p < t
  · rw [if_neg (nI_ge c (by omega)), if_pos (show nI p < (200 : Int32) from nI_lt (b := 200) (by omega) (by omega)), in_nI (by omega) (by omega), gd_tt, nI_clamp (by omega), lt_eq, (w p c).2.2, if_pos c, ← sgb_cls (w p c).1]
    unfold C8_sortAt_42
    repeat' split
    all_goals rfl
  · rw [if_pos (nI_le (by omega) (by omega)), if_neg c]; rfl
end TOK
/-- a token: from b up to e, of sort c, found from p on -/
def Tk (t : Nat) (B : Nat → Nat) (p b e c : Nat) : Prop := p ≤ b ∧ b ≤ e ∧ e ≤ t ∧ (∀ q, p ≤ q → q < b → q < t ∧ B q = 32) ∧ ¬ (b < t ∧ B b = 32) ∧ c = cls t B b ∧ ((c = 0 ∧ e = b) ∨ (c = 3 ∧ e = b + 1) ∨ ((c = 1 ∨ c = 2) ∧ b < e ∧ (∀ q, b ≤ q → q < e → cls t B q = c) ∧ ¬ cls t B e = c))
theorem Tk_ex {t : Nat} {B : Nat → Nat} {p : Nat} (hp : p ≤ t) : ∃ b e c, Tk t B p b e c := by
  have h1 : ∃ b, p ≤ b ∧ ¬ (b < t ∧ B b = 32) := ⟨t, hp, fun q => by omega⟩
  obtain ⟨b, ⟨hb1, hb2⟩, hb3⟩ := pk_least _ h1
  have hbt : b ≤ t := by
    by_cases c : b ≤ t
    · exact c
    · exact absurd ⟨hp, fun q => by omega⟩ (hb3 t (by omega))
  have hsp : ∀ q, p ≤ q → q < b → q < t ∧ B q = 32 := fun q h1 h2 => Classical.byContradiction (fun z => hb3 q h2 ⟨h1, z⟩)
  have hc := cls_le (t := t) (B := B) (p := b)
  by_cases c0 : cls t B b = 0
  · exact ⟨b, b, 0, hb1, Nat.le_refl _, hbt, hsp, hb2, c0.symm, Or.inl ⟨rfl, rfl⟩⟩
  · have hlt : b < t := by
      by_cases z : b < t
      · exact z
      · exact absurd (cls0.mpr (by omega)) c0
    by_cases c3 : cls t B b = 3
    · exact ⟨b, b + 1, 3, hb1, by omega, by omega, hsp, hb2, c3.symm, Or.inr (Or.inl ⟨rfl, rfl⟩)⟩
    · have h2 : ∃ e, b < e ∧ ¬ cls t B e = cls t B b := ⟨t, hlt, fun q => c0 (by rw [← q]; exact cls0.mpr (Nat.le_refl _))⟩
      obtain ⟨e, ⟨he1, he2⟩, he3⟩ := pk_least _ h2
      have het : e ≤ t := by
        by_cases z : e ≤ t
        · exact z
        · exact absurd ⟨hlt, fun q => c0 (by rw [← q]; exact cls0.mpr (Nat.le_refl _))⟩ (he3 t (by omega))
      refine ⟨b, e, cls t B b, hb1, by omega, het, hsp, hb2, rfl, Or.inr (Or.inr ⟨by omega, he1, fun q h1 h2 => ?_, he2⟩)⟩
      by_cases z : q = b
      · rw [z]
      · exact Classical.byContradiction (fun w => he3 q h2 ⟨by omega, w⟩)
/-- what digits tell -/
def vl (B : Nat → Nat) (b : Nat) : Nat → Nat
  | 0 => 0
  | i + 1 => if vl B b i ≤ 999 then 10 * vl B b i + B (b + i) - 48 else vl B b i
def pC (k j : Nat) : Prop := k = 20 ∧ 2 ≤ j ∧ j ≤ 4
def pM (k j : Nat) : Prop := k = 0 ∧ 7 ≤ j ∧ j ≤ 10
theorem TX.fr {t : Nat} {B : Nat → Nat} {σc σm τc τm : Sg} {S T : Nat → Nat → Prop} (x : TX t B σc σm) (a : ag S σc τc) (b : ag T σm τm) (s0 : ¬ S 20 0) (s1 : ∀ j, ¬ S 21 j) (t0 : ¬ T 0 6) (t1 : ∀ j, ¬ T 5 j) : TX t B τc τm := by
  obtain ⟨h1, h2, h3, h4⟩ := x
  exact ⟨h1, by rw [a.1 _ _ s0]; exact h2, by rw [b.1 _ _ t0]; exact h3, fun i hi => by rw [a.1 _ _ (s1 i), b.1 _ _ (t1 i)]; exact h4 i hi⟩
section STEP
variable {t : Nat} {B : Nat → Nat} {τc τm : Sg}
/-- tokens of the one side -/
def CT (t : Nat) (B : Nat → Nat) (τ : Sg) (p b e c : Nat) : Prop := rd_ τ 20 2 = nI b ∧ rd_ τ 20 3 = nI e ∧ rd_ τ 20 4 = nI c ∧ Tk t B p b e c
def MT (t : Nat) (B : Nat → Nat) (τ : Sg) (p b e c : Nat) : Prop := rd_ τ 0 8 = nI b ∧ rd_ τ 0 9 = nI e ∧ rd_ τ 0 7 = nI c ∧ Tk t B p b e c ∧ (c = 2 → rd_ τ 0 10 = nI (vl B b (e - b)))
theorem cstepT {p b e c : Nat} (x : TX t B τc τm) (ep : rd_ τc 20 3 = nI p) (k : Tk t B p b e c) : ∃ τ, ag pC τc τ ∧ CT t B τ p b e c ∧ C8_step_0 τc = some ((), τ) := by
  obtain ⟨k1, k2, k3, k4, k5, k6, k7⟩ := id k
  have ht := x.1
  have xx : ∀ {υ : Sg}, ag pC τc υ → TX t B υ τm := fun a => x.fr a (ag.rf (S := fun _ _ => False)) (by simp [pC]) (fun j => by simp [pC]) (by simp) (fun j => by simp)
  have s46 : ∀ {υ : Sg}, ag pC τc υ → rd_ υ 20 2 = nI b → ∃ τ, ag pC τc τ ∧ CT t B τ p b e c ∧ C8_step_46 υ = some ((), τ) := by
    intro υ a e2
    have es := csortAt (p := b) (xx a) (by omega)
    rw [← k6] at es
    have a2 : ag pC τc (wr_ υ 20 4 (nI c)) := a.wr ⟨rfl, by omega, by omega⟩
    have e4 : rd_ (wr_ υ 20 4 (nI c)) 20 4 = nI c := rd_same _ _ _ _
    have e22 : rd_ (wr_ υ 20 4 (nI c)) 20 2 = nI b := by rw [rd_j (by omega)]; exact e2
    have h46 : C8_step_46 υ = C8_step_79 (wr_ υ 20 4 (nI c)) (if c = 0 then nI b else nI (b + 1)) := by
      unfold C8_step_46
      rw [e2, es, bi_some, lt_eq, e4, e22]
      by_cases z : c = 0
      · rw [if_pos (show nI c = 0 by rw [z]; rfl), if_pos z]
      · have : c ≤ 3 := by rw [k6]; exact cls_le
        rw [if_neg (nI_ne0 (by omega) (by omega)), if_neg z, show (1 : Int32) = nI 1 from rfl, nI_add]
    rw [h46]
    rcases k7 with ⟨z, ze⟩ | ⟨z, ze⟩ | ⟨z, ze1, ze2, ze3⟩
    · subst z
      refine ⟨wr_ (wr_ υ 20 4 (nI 0)) 20 3 (nI b), a2.wr ⟨rfl, by omega, by omega⟩, ⟨by rw [rd_j (by omega)]; exact e22, by rw [rd_same, ze], by rw [rd_j (by omega)]; exact e4, k⟩, ?_⟩
      unfold C8_step_79
      rw [if_pos rfl, lt_eq, rd_j (by omega), e4, if_neg (by decide), if_neg (by decide)]
      unfold C8_step_103
      rw [lp300, C8_step_106, if_neg (by decide), if_pos rfl]
    · subst z
      refine ⟨wr_ (wr_ υ 20 4 (nI 3)) 20 3 (nI (b + 1)), a2.wr ⟨rfl, by omega, by omega⟩, ⟨by rw [rd_j (by omega)]; exact e22, by rw [rd_same, ze], by rw [rd_j (by omega)]; exact e4, k⟩, ?_⟩
      unfold C8_step_79
      rw [if_neg (by omega), lt_eq, rd_j (by omega), e4, if_neg (by decide), if_neg (by decide)]
      unfold C8_step_103
      rw [lp300, C8_step_106, if_neg (by decide), if_pos rfl]
    · have h79 : C8_step_79 (wr_ υ 20 4 (nI c)) (if c = 0 then nI b else nI (b + 1)) = lp_ C8_step_106 (fun _ _ _ => none) FU (wr_ (wr_ υ 20 4 (nI c)) 20 3 (nI (b + 1))) (nI 1) (nI 0) := by
        unfold C8_step_79 C8_step_98 C8_step_103
        rw [if_neg (by omega), lt_eq, rd_j (by omega), e4]
        rcases z with z | z
        · subst z; rw [if_pos (by decide)]; rfl
        · subst z; rw [if_neg (by decide), if_pos (by decide)]; rfl
      rw [h79]
      refine ⟨wr_ (wr_ υ 20 4 (nI c)) 20 3 (nI e), a2.wr ⟨rfl, by omega, by omega⟩, ⟨by rw [rd_j (by omega)]; exact e22, rd_same _ _ _ _, by rw [rd_j (by omega)]; exact e4, k⟩, ?_⟩
      have e1 : b + 1 + (e - b - 1) = e := by omega
      have := lg3 (F := C8_step_106) (z := fun _ _ _ => none) (e - b - 1) (fun i => wr_ (wr_ υ 20 4 (nI c)) 20 3 (nI (b + 1 + i))) (fun _ => nI 1) (fun i => nI i) (some ((), wr_ (wr_ υ 20 4 (nI c)) 20 3 (nI e))) ?_ ?_ (FU_gt (by omega))
      · exact this
      · intro K i hi
        have xi : TX t B (wr_ (wr_ υ 20 4 (nI c)) 20 3 (nI (b + 1 + i))) τm := xx (a2.wr ⟨rfl, by omega, by omega⟩)
        have es := csortAt (p := b + 1 + i) xi (by omega)
        rw [ze2 (b + 1 + i) (by omega) (by omega)] at es
        unfold C8_step_106
        rw [show (200 : Int32) = nI 200 from rfl, if_neg (nI_ge (by omega) (by omega)), if_neg (by decide), rd_same, es, bi_some, rd_j (by omega), e4, if_pos rfl, lt_eq, lt_eq, wr_wr, rd_same, show (1 : Int32) = nI 1 from rfl, nI_add, nI_add, Nat.add_assoc (b + 1)]
      · intro K
        rw [e1]
        have xi : TX t B (wr_ (wr_ υ 20 4 (nI c)) 20 3 (nI e)) τm := xx (a2.wr ⟨rfl, by omega, by omega⟩)
        have es := csortAt (p := e) xi (by omega)
        have hc3 := cls_le (t := t) (B := B) (p := e)
        unfold C8_step_106
        by_cases h200 : e - b - 1 < 200
        · rw [show (200 : Int32) = nI 200 from rfl, if_neg (nI_ge h200 (by omega)), if_neg (by decide), rd_same, es, bi_some, rd_j (by omega), e4, if_neg (fun q => ze3 ((nI_eq (by omega) (by omega)).mp q))]
        · omega
  have key := lj2 (F := C8_step_10) (z := fun _ _ => none) (b - p) (fun i υ x1 => ag pC τc υ ∧ rd_ υ 20 2 = nI (p + i) ∧ x1 = nI i) (fun τ => ag pC τc τ ∧ CT t B τ p b e c) (fun τ => some ((), τ)) (wr_ τc 20 2 (nI p)) (nI 0) ⟨ag.rf.wr ⟨rfl, by omega, by omega⟩, rd_same _ _ _ _, rfl⟩ ?_ ?_ (FU_gt (N := b - p) (by omega))
  · obtain ⟨τ, ⟨h1, h2⟩, h3⟩ := key
    refine ⟨τ, h1, h2, ?_⟩
    unfold C8_step_0
    rw [ep, lt_eq]
    exact h3
  · rintro K i υ x1 hi ⟨a, e2, rfl⟩
    have hs := k4 (p + i) (by omega) (by omega)
    refine Or.inl ⟨wr_ υ 20 2 (nI (p + (i + 1))), nI (i + 1), ⟨a.wr ⟨rfl, by omega, by omega⟩, rd_same _ _ _ _, rfl⟩, ?_⟩
    unfold C8_step_10
    rw [show (200 : Int32) = nI 200 from rfl, if_neg (nI_ge (by omega) (by omega)), e2, cbyteAt (xx a) (by omega), bi_some, show (32 : Int32) = nI 32 from rfl, if_pos ((cb_eq (xx a) (by omega) (by omega)).mpr hs), lt_eq, lt_eq, e2, show (1 : Int32) = nI 1 from rfl, nI_add, nI_add, Nat.add_assoc]
  · rintro K υ x1 ⟨a, e2, rfl⟩
    rw [show p + (b - p) = b by omega] at e2
    obtain ⟨τ, h1, h2, h3⟩ := s46 a e2
    refine ⟨τ, ⟨h1, h2⟩, ?_⟩
    unfold C8_step_10
    by_cases c200 : 200 ≤ b - p
    · rw [show (200 : Int32) = nI 200 from rfl, if_pos (nI_le c200 (by omega))]; exact h3
    · rw [show (200 : Int32) = nI 200 from rfl, if_neg (nI_ge (by omega) (by omega)), e2, cbyteAt (xx a) (by omega), bi_some, show (32 : Int32) = nI 32 from rfl, if_neg (fun q => k5 ((cb_eq (xx a) (by omega) (by omega)).mp q))]
      exact h3
end STEP
