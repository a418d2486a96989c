/-! names -/
def chL (z : Nat) : List Nat := [[118, 105, 99, 101], [105, 115], [101, 97, 115, 121], [116, 111], [116, 114, 97, 105, 116], [102, 105, 114, 101], [119, 105, 115, 104], [97, 103, 101], [99, 104, 105, 108, 100], [104, 101, 105, 114], [117, 114, 99, 104, 105, 110], [99, 117, 114, 97, 116, 101], [114, 101, 102, 111, 114, 109, 101, 114], [116, 119, 105, 110], [112, 105, 101, 116, 121], [115, 108, 117, 109], [114, 111, 111, 109], [115, 108, 105, 112]].getD z []
theorem chL_ok : ∀ z, z < 18 → lenS.getD z 0 = (chL z).length ∧ (chL z).length ≤ 8 ∧ 2 ≤ (chL z).length ∧ ∀ i, i < (chL z).length → sch z i = nI ((chL z).getD i 0) ∧ 0 < (chL z).getD i 0 ∧ (chL z).getD i 0 < 128 := by decide +kernel
def nmL (B : Nat → Nat) (l : List Nat) (b e c : Nat) : Prop := c = 1 ∧ e = b + l.length ∧ ∀ i, i < l.length → B (b + i) = l.getD i 0
noncomputable def qn (B : Nat → Nat) (z b e c : Nat) : Bool := dcd (nmL B (chL z) b e c)
section NM
variable {t : Nat} {B : Nat → Nat} {τc τm : Sg} {p b e c : Nat}
theorem cisName {z : Nat} (x : TX t B τc τm) (k : CT t B τc p b e c) (hz : z < 18) : C8_isName_0 τc z = some (nI (nb1 (qn B z b e c)), τc) := by
  obtain ⟨c2, c3, c4, k⟩ := k
  obtain ⟨k1, k2, k3, k4, k5, k6, k7⟩ := k
  obtain ⟨o1, o2, o3, o4⟩ := chL_ok z hz
  have ht := x.1
  have esl : sln z = nI (chL z).length := by unfold sln; rw [o1]; rfl
  unfold C8_isName_0 qn
  by_cases h1 : c = 1
  · rw [c4, h1, if_pos (by decide), lf_tt hz, gd_tt, c3, c2, pk_sub k2, esl]
    by_cases h2 : e = b + (chL z).length
    · rw [if_pos (by rw [h2, Nat.add_sub_cancel_left])]
      have st : ∀ i K, i < (chL z).length → C8_isName_28 K τc z (nI i) = if B (b + i) = (chL z).getD i 0 then K τc z (nI (i + 1)) else some (nI 0, τc) := fun i K hi => by
        obtain ⟨p1, p2, p3⟩ := o4 i hi
        unfold C8_isName_28
        rw [lf_tt hz, gd_tt, esl, if_neg (nI_ge hi (by omega)), c2, nI_add, cbyteAt x (by omega), bi_some]
        have eck : ck_ z (nI i) = true := by unfold ck_; rw [o1]; exact in_nI hi (by omega)
        rw [eck, gd_tt, nI_clamp (by omega), p1]
        by_cases hb : B (b + i) = (chL z).getD i 0
        · rw [if_pos ((cb_eq x p2 p3).mpr ⟨by omega, hb⟩), if_pos hb, lt_eq, lit, nI_add]
        · rw [if_neg (fun q => hb ((cb_eq x p2 p3).mp q).2), if_neg hb]; rfl
      by_cases hit : ∃ i, i < (chL z).length ∧ ¬ B (b + i) = (chL z).getD i 0
      · obtain ⟨N, ⟨hN, hd⟩, hm⟩ := pk_least _ hit
        rw [dcd_f (fun q => hd (q.2.2 N hN))]
        refine lg3 (F := C8_isName_28) (z := fun _ _ _ => none) N (fun _ => τc) (fun _ => z) (fun i => nI i) _ ?_ ?_ (FU_gt (by omega))
        · intro K i hi
          rw [st i K (by omega), if_pos (Classical.byContradiction (fun q => hm i hi ⟨by omega, q⟩))]
        · intro K
          rw [st N K hN, if_neg hd]; rfl
      · have hall : ∀ i, i < (chL z).length → B (b + i) = (chL z).getD i 0 := fun i hi => Classical.byContradiction (fun q => hit ⟨i, hi, q⟩)
        rw [dcd_t (show nmL B (chL z) b e 1 from ⟨rfl, h2, hall⟩)]
        refine lg3 (F := C8_isName_28) (z := fun _ _ _ => none) (chL z).length (fun _ => τc) (fun _ => z) (fun i => nI i) _ ?_ ?_ (FU_gt (by omega))
        · intro K i hi
          rw [st i K hi, if_pos (hall i hi)]
        · intro K
          unfold C8_isName_28
          rw [lf_tt hz, gd_tt, esl, if_pos (Int32.le_refl _)]; rfl
    · rw [if_neg (fun q => h2 (by have := (nI_eq (by omega) (by omega)).mp q; omega)), dcd_f (fun q => h2 q.2.1)]; rfl
  · have hc3 : c ≤ 3 := by rw [k6]; exact cls_le
    rw [c4, if_neg (show ¬ nI c = (1 : Int32) from fun q => h1 ((nI_eq (b := 1) (by omega) (by omega)).mp q)), dcd_f (fun q => h1 q.1)]; rfl
/-- the other side's checks -/
theorem misName {L a1 a2 a3 a4 : Nat} (x : TX t B τc τm) (k : MT t B τm p b e c) (hL : 3 ≤ L) (hL8 : L ≤ 8) (h1 : a1 < 128) (h2 : a2 < 128) (h3 : a3 < 128) (h4 : a4 < 128) : M_isName_0 τm (nI L) (nI a1) (nI a2) (nI a3) (nI a4) = some (nI (nb1 (dcd (c = 1 ∧ e = b + L ∧ B b = a1 ∧ B (b + 1) = a2 ∧ B (b + 2) = a3 ∧ B (b + L - 1) = a4))), τm) := by
  obtain ⟨m8, m9, m7, k, -⟩ := k
  obtain ⟨k1, k2, k3, k4, k5, k6, k7⟩ := k
  have ht := x.1
  have hc3 : c ≤ 3 := by rw [k6]; exact cls_le
  unfold M_isName_0
  rw [m7]
  by_cases g1 : c = 1
  · rw [if_pos (show nI c = (1 : Int32) by rw [g1]; rfl), m9, m8, pk_sub k2]
    by_cases g2 : e = b + L
    · have e1 : nI b + (1 : Int32) = nI (b + 1) := nI_add b 1
      have e2 : nI b + (2 : Int32) = nI (b + 2) := nI_add b 2
      have e3 : nI e - (1 : Int32) = nI (b + L - 1) := by rw [show (1 : Int32) = nI 1 from rfl, pk_sub (by omega), g2]
      rw [if_pos (show nI (e - b) = nI L by rw [g2, Nat.add_sub_cancel_left]), mbyteAt x (by omega), bi_some]
      by_cases q1 : B b = a1
      · rw [if_pos ((mb_eq x h1).mpr ⟨by omega, q1⟩), m8, e1, mbyteAt x (by omega), bi_some]
        by_cases q2 : B (b + 1) = a2
        · rw [if_pos ((mb_eq x h2).mpr ⟨by omega, q2⟩), m8, e2, mbyteAt x (by omega), bi_some]
          by_cases q3 : B (b + 2) = a3
          · rw [if_pos ((mb_eq x h3).mpr ⟨by omega, q3⟩), m9, e3, mbyteAt x (by omega), bi_some]
            by_cases q4 : B (b + L - 1) = a4
            · rw [if_pos ((mb_eq x h4).mpr ⟨by omega, q4⟩), dcd_t ⟨g1, g2, q1, q2, q3, q4⟩]; rfl
            · rw [if_neg (fun w => q4 ((mb_eq x h4).mp w).2), dcd_f (fun w => q4 w.2.2.2.2.2)]; rfl
          · rw [if_neg (fun w => q3 ((mb_eq x h3).mp w).2), dcd_f (fun w => q3 w.2.2.2.2.1)]; rfl
        · rw [if_neg (fun w => q2 ((mb_eq x h2).mp w).2), dcd_f (fun w => q2 w.2.2.2.1)]; rfl
      · rw [if_neg (fun w => q1 ((mb_eq x h1).mp w).2), dcd_f (fun w => q1 w.2.2.1)]; rfl
    · rw [if_neg (fun w => g2 (by have := (nI_eq (by omega) (by omega)).mp w; omega)), dcd_f (fun w => g2 w.2.1)]; rfl
  · rw [if_neg (show ¬ nI c = (1 : Int32) from fun w => g1 ((nI_eq (b := 1) (by omega) (by omega)).mp w)), dcd_f (fun w => g1 w.1)]; rfl
theorem misTwo {z a1 a2 : Nat} (x : TX t B τc τm) (k : MT t B τm p b e c) (ez : chL z = [a1, a2]) (h1 : a1 < 128) (h2 : a2 < 128) : M_isTwo_0 τm (nI a1) (nI a2) = some (nI (nb1 (qn B z b e c)), τm) := by
  obtain ⟨m8, m9, m7, k, -⟩ := k
  obtain ⟨k1, k2, k3, k4, k5, k6, k7⟩ := k
  have ht := x.1
  have hc3 : c ≤ 3 := by rw [k6]; exact cls_le
  unfold M_isTwo_0 qn
  rw [m7, ez]
  by_cases g1 : c = 1
  · rw [if_pos (show nI c = (1 : Int32) by rw [g1]; rfl), m9, m8, pk_sub k2]
    by_cases g2 : e = b + 2
    · have e1 : nI b + (1 : Int32) = nI (b + 1) := nI_add b 1
      rw [if_pos (show nI (e - b) = (2 : Int32) by rw [g2, Nat.add_sub_cancel_left]; rfl), mbyteAt x (by omega), bi_some]
      by_cases q1 : B b = a1
      · rw [if_pos ((mb_eq x h1).mpr ⟨by omega, q1⟩), m8, e1, mbyteAt x (by omega), bi_some]
        by_cases q2 : B (b + 1) = a2
        · rw [if_pos ((mb_eq x h2).mpr ⟨by omega, q2⟩), dcd_t ⟨g1, g2, fun i hi => by
            have : i = 0 ∨ i = 1 := by simp at hi; omega
            rcases this with rfl | rfl
            · exact q1
            · exact q2⟩]; rfl
        · rw [if_neg (fun w => q2 ((mb_eq x h2).mp w).2), dcd_f (fun w => q2 (w.2.2 1 (by simp)))]; rfl
      · rw [if_neg (fun w => q1 ((mb_eq x h1).mp w).2), dcd_f (fun w => q1 (w.2.2 0 (by simp)))]; rfl
    · rw [if_neg (show ¬ nI (e - b) = (2 : Int32) from fun w => g2 (by have := (nI_eq (b := 2) (by omega) (by omega)).mp w; omega)), dcd_f (fun w => g2 w.2.1)]; rfl
  · rw [if_neg (show ¬ nI c = (1 : Int32) from fun w => g1 ((nI_eq (b := 1) (by omega) (by omega)).mp w)), dcd_f (fun w => g1 w.1)]; rfl
theorem nm4 {a1 a2 a3 a4 : Nat} : (c = 1 ∧ e = b + 4 ∧ B b = a1 ∧ B (b + 1) = a2 ∧ B (b + 2) = a3 ∧ B (b + 4 - 1) = a4) ↔ nmL B [a1, a2, a3, a4] b e c := by
  constructor
  · rintro ⟨g1, g2, q1, q2, q3, q4⟩
    refine ⟨g1, g2, fun i hi => ?_⟩
    have : i = 0 ∨ i = 1 ∨ i = 2 ∨ i = 3 := by simp at hi; omega
    rcases this with rfl | rfl | rfl | rfl
    · exact q1
    · exact q2
    · exact q3
    · exact q4
  · rintro ⟨g1, g2, w⟩
    exact ⟨g1, g2, w 0 (by simp), w 1 (by simp), w 2 (by simp), w 3 (by simp)⟩
theorem misFour {z a1 a2 a3 a4 : Nat} (x : TX t B τc τm) (k : MT t B τm p b e c) (ez : chL z = [a1, a2, a3, a4]) (h1 : a1 < 128) (h2 : a2 < 128) (h3 : a3 < 128) (h4 : a4 < 128) : M_isFour_0 τm (nI a1) (nI a2) (nI a3) (nI a4) = some (nI (nb1 (qn B z b e c)), τm) := by
  unfold M_isFour_0
  rw [show (4 : Int32) = nI 4 from rfl, misName x k (by omega) (by omega) h1 h2 h3 h4, bi_some, dcd_c nm4, ← ez]
  have : bo_ (nI (nb1 (dcd (nmL B (chL z) b e c)))) = true := by cases dcd (nmL B (chL z) b e c) <;> decide
  rw [this, gd_tt]
  rfl
theorem misAge (x : TX t B τc τm) (k : MT t B τm p b e c) : M_isName_0 τm (nI 3) (nI 97) (nI 103) (nI 101) (nI 101) = some (nI (nb1 (qn B 7 b e c)), τm) := by
  rw [misName x k (by omega) (by omega) (by omega) (by omega) (by omega) (by omega)]
  have : (c = 1 ∧ e = b + 3 ∧ B b = 97 ∧ B (b + 1) = 103 ∧ B (b + 2) = 101 ∧ B (b + 3 - 1) = 101) ↔ nmL B (chL 7) b e c := by
    constructor
    · rintro ⟨g1, g2, q1, q2, q3, q4⟩
      refine ⟨g1, g2, fun i hi => ?_⟩
      have : i = 0 ∨ i = 1 ∨ i = 2 := by simp [chL] at hi; omega
      rcases this with rfl | rfl | rfl
      · exact q1
      · exact q2
      · exact q3
    · rintro ⟨g1, g2, w⟩
      exact ⟨g1, g2, w 0 (by simp [chL]), w 1 (by simp [chL]), w 2 (by simp [chL]), w 2 (by simp [chL])⟩
  rw [dcd_c this]
  rfl
theorem misFive {z a1 a2 a3 a4 a5 : Nat} (x : TX t B τc τm) (k : MT t B τm p b e c) (ez : chL z = [a1, a2, a3, a4, a5]) (h1 : a1 < 128) (h2 : a2 < 128) (h3 : a3 < 128) (h4 : a4 < 128) (h5 : a5 < 128) : M_isFive_0 τm (nI a1) (nI a2) (nI a3) (nI a4) (nI a5) = some (nI (nb1 (qn B z b e c)), τm) := by
  have hk := k
  obtain ⟨m8, m9, m7, k, -⟩ := k
  obtain ⟨k1, k2, k3, k4, k5, k6, k7⟩ := k
  have ht := x.1
  unfold M_isFive_0 qn
  rw [show (5 : Int32) = nI 5 from rfl, misName x hk (by omega) (by omega) h1 h2 h3 h5, bi_some, ez]
  by_cases g : c = 1 ∧ e = b + 5 ∧ B b = a1 ∧ B (b + 1) = a2 ∧ B (b + 2) = a3 ∧ B (b + 5 - 1) = a5
  · obtain ⟨g1, g2, q1, q2, q3, q5⟩ := id g
    have e3 : nI b + (3 : Int32) = nI (b + 3) := nI_add b 3
    rw [dcd_t g, if_neg (by decide), m8, e3, mbyteAt x (by omega), bi_some]
    by_cases q4 : B (b + 3) = a4
    · rw [if_pos ((mb_eq x h4).mpr ⟨by omega, q4⟩), dcd_t ⟨g1, g2, fun i hi => by
        have : i = 0 ∨ i = 1 ∨ i = 2 ∨ i = 3 ∨ i = 4 := by simp at hi; omega
        rcases this with rfl | rfl | rfl | rfl | rfl
        · exact q1
        · exact q2
        · exact q3
        · exact q4
        · exact q5⟩]; rfl
    · rw [if_neg (fun w => q4 ((mb_eq x h4).mp w).2), dcd_f (fun w => q4 (w.2.2 3 (by simp)))]; rfl
  · rw [dcd_f g, if_pos (by decide), dcd_f (fun w => g ⟨w.1, w.2.1, w.2.2 0 (by simp), w.2.2 1 (by simp), w.2.2 2 (by simp), w.2.2 4 (by simp)⟩)]; rfl
theorem misSame {L q a1 a2 a3 : Nat} (x : TX t B τc τm) (k : MT t B τm p b e c) (he : e = b + L) (hq : q + 2 < L) (h1 : a1 < 128) (h2 : a2 < 128) (h3 : a3 < 128) : M_isSame_0 τm (nI q) (nI a1) (nI a2) (nI a3) = some (nI (nb1 (dcd (B (b + q) = a1 ∧ B (b + q + 1) = a2 ∧ B (b + q + 2) = a3))), τm) := by
  obtain ⟨m8, m9, m7, k, -⟩ := k
  obtain ⟨k1, k2, k3, k4, k5, k6, k7⟩ := k
  have ht := x.1
  have e1 : nI (b + q) + (1 : Int32) = nI (b + q + 1) := nI_add _ 1
  have e2 : nI (b + q) + (2 : Int32) = nI (b + q + 2) := nI_add _ 2
  unfold M_isSame_0
  rw [m8, nI_add, mbyteAt x (by omega), bi_some]
  by_cases q1 : B (b + q) = a1
  · rw [if_pos ((mb_eq x h1).mpr ⟨by omega, q1⟩), m8, nI_add, e1, mbyteAt x (by omega), bi_some]
    by_cases q2 : B (b + q + 1) = a2
    · rw [if_pos ((mb_eq x h2).mpr ⟨by omega, q2⟩), m8, nI_add, e2, mbyteAt x (by omega), bi_some]
      by_cases q3 : B (b + q + 2) = a3
      · rw [if_pos ((mb_eq x h3).mpr ⟨by omega, q3⟩), dcd_t ⟨q1, q2, q3⟩]; rfl
      · rw [if_neg (fun w => q3 ((mb_eq x h3).mp w).2), dcd_f (fun w => q3 w.2.2)]; rfl
    · rw [if_neg (fun w => q2 ((mb_eq x h2).mp w).2), dcd_f (fun w => q2 w.2.1)]; rfl
  · rw [if_neg (fun w => q1 ((mb_eq x h1).mp w).2), dcd_f (fun w => q1 w.1)]; rfl
/-- kinds -/
noncomputable def kd (B : Nat → Nat) (b e c : Nat) : Nat := if qn B 8 b e c = true then 0 else if qn B 9 b e c = true then 1 else if qn B 10 b e c = true then 2 else if qn B 11 b e c = true then 3 else if qn B 12 b e c = true then 4 else if qn B 13 b e c = true then 5 else 6
theorem ckindTold (x : TX t B τc τm) (k : CT t B τc p b e c) : C8_kindTold_0 τc = some (if kd B b e c = 6 then -3 else nI (kd B b e c), τc) := by
  unfold C8_kindTold_0 kd
  rw [cisName x k (by omega), bi_some, cisName x k (by omega), bi_some, cisName x k (by omega), bi_some, cisName x k (by omega), bi_some, cisName x k (by omega), bi_some, cisName x k (by omega), bi_some]
  cases qn B 8 b e c <;> cases qn B 9 b e c <;> cases qn B 10 b e c <;> cases qn B 11 b e c <;> cases qn B 12 b e c <;> cases qn B 13 b e c <;> rfl
theorem qn6 {z a1 a2 a3 a4 a5 a6 : Nat} (ez : chL z = [a1, a2, a3, a4, a5, a6]) : qn B z b e c = (dcd (c = 1 ∧ e = b + 6 ∧ B b = a1 ∧ B (b + 1) = a2 ∧ B (b + 2) = a3 ∧ B (b + 6 - 1) = a6) && dcd (B (b + 2) = a3 ∧ B (b + 2 + 1) = a4 ∧ B (b + 2 + 2) = a5)) := by
  unfold qn
  rw [ez]
  by_cases g : c = 1 ∧ e = b + 6 ∧ B b = a1 ∧ B (b + 1) = a2 ∧ B (b + 2) = a3 ∧ B (b + 6 - 1) = a6
  · by_cases h : B (b + 2) = a3 ∧ B (b + 2 + 1) = a4 ∧ B (b + 2 + 2) = a5
    · rw [dcd_t g, dcd_t h, dcd_t ⟨g.1, g.2.1, fun i hi => by
        have : i = 0 ∨ i = 1 ∨ i = 2 ∨ i = 3 ∨ i = 4 ∨ i = 5 := by simp at hi; omega
        rcases this with rfl | rfl | rfl | rfl | rfl | rfl
        · exact g.2.2.1
        · exact g.2.2.2.1
        · exact g.2.2.2.2.1
        · exact h.2.1
        · exact h.2.2
        · exact g.2.2.2.2.2⟩]; rfl
    · rw [dcd_f h, dcd_f (fun w => h ⟨w.2.2 2 (by simp), w.2.2 3 (by simp), w.2.2 4 (by simp)⟩), Bool.and_false]
  · rw [dcd_f g, dcd_f (fun w => g ⟨w.1, w.2.1, w.2.2 0 (by simp), w.2.2 1 (by simp), w.2.2 2 (by simp), w.2.2 5 (by simp)⟩), Bool.false_and]
theorem mkindHere (x : TX t B τc τm) (k : MT t B τm p b e c) : M_kindHere_0 τm = some (if kd B b e c = 6 then -1 else nI (kd B b e c), τm) := by
  obtain ⟨m8, m9, m7, kk, -⟩ := id k
  have ht := x.1
  have h151 : M_kindHere_151 τm = some (if qn B 13 b e c = true then nI 5 else -1, τm) := by
    unfold M_kindHere_151
    rw [show (116 : Int32) = nI 116 from rfl, show (119 : Int32) = nI 119 from rfl, show (105 : Int32) = nI 105 from rfl, show (110 : Int32) = nI 110 from rfl, misFour (z := 13) x k rfl (by omega) (by omega) (by omega) (by omega), bi_some]
    cases qn B 13 b e c <;> rfl
  have h102 : M_kindHere_102 τm = some (if qn B 12 b e c = true then nI 4 else if qn B 13 b e c = true then nI 5 else -1, τm) := by
    unfold M_kindHere_102
    rw [show (8 : Int32) = nI 8 from rfl, show (114 : Int32) = nI 114 from rfl, show (101 : Int32) = nI 101 from rfl, show (102 : Int32) = nI 102 from rfl, misName x k (by omega) (by omega) (by omega) (by omega) (by omega) (by omega), bi_some, h151]
    by_cases g : c = 1 ∧ e = b + 8 ∧ B b = 114 ∧ B (b + 1) = 101 ∧ B (b + 2) = 102 ∧ B (b + 8 - 1) = 114
    · have hb : b + 8 ≤ t := by have := kk.2.2.1; omega
      rw [dcd_t g, if_neg (by decide), show (3 : Int32) = nI 3 from rfl, show (111 : Int32) = nI 111 from rfl, show (109 : Int32) = nI 109 from rfl, misSame (L := 8) x k g.2.1 (by omega) (by omega) (by omega) (by omega), bi_some, h151]
      by_cases h : B (b + 3) = 111 ∧ B (b + 3 + 1) = 114 ∧ B (b + 3 + 2) = 109
      · have e6 : nI b + (6 : Int32) = nI (b + 6) := nI_add b 6
        rw [dcd_t h, if_neg (by decide), m8, e6, mbyteAt x (by omega), bi_some]
        by_cases h6 : B (b + 6) = 101
        · rw [if_pos ((mb_eq x (by omega)).mpr ⟨by omega, h6⟩)]
          have : qn B 12 b e c = true := dcd_t ⟨g.1, g.2.1, fun i hi => by
            have : i = 0 ∨ i = 1 ∨ i = 2 ∨ i = 3 ∨ i = 4 ∨ i = 5 ∨ i = 6 ∨ i = 7 := by simp [chL] at hi; omega
            rcases this with rfl | rfl | rfl | rfl | rfl | rfl | rfl | rfl
            · exact g.2.2.1
            · exact g.2.2.2.1
            · exact g.2.2.2.2.1
            · exact h.1
            · exact h.2.1
            · exact h.2.2
            · exact h6
            · exact g.2.2.2.2.2⟩
          rw [this]; rfl
        · have : qn B 12 b e c = false := dcd_f (fun w => h6 (w.2.2 6 (by simp [chL])))
          rw [if_neg (fun w => h6 ((mb_eq x (by omega)).mp w).2), this, h151]; rfl
      · have : qn B 12 b e c = false := dcd_f (fun w => h ⟨w.2.2 3 (by simp [chL]), w.2.2 4 (by simp [chL]), w.2.2 5 (by simp [chL])⟩)
        rw [dcd_f h, if_pos (by decide), this]; rfl
    · have : qn B 12 b e c = false := dcd_f (fun w => g ⟨w.1, w.2.1, w.2.2 0 (by simp [chL]), w.2.2 1 (by simp [chL]), w.2.2 2 (by simp [chL]), w.2.2 7 (by simp [chL])⟩)
      rw [dcd_f g, if_pos (by decide), this]; rfl
  have h69 : M_kindHere_69 τm = some (if qn B 11 b e c = true then nI 3 else if qn B 12 b e c = true then nI 4 else if qn B 13 b e c = true then nI 5 else -1, τm) := by
    unfold M_kindHere_69
    rw [show (6 : Int32) = nI 6 from rfl, show (99 : Int32) = nI 99 from rfl, show (117 : Int32) = nI 117 from rfl, show (114 : Int32) = nI 114 from rfl, show (101 : Int32) = nI 101 from rfl, misName x k (by omega) (by omega) (by omega) (by omega) (by omega) (by omega), bi_some, h102, qn6 (z := 11) (a1 := 99) (a2 := 117) (a3 := 114) (a4 := 97) (a5 := 116) (a6 := 101) rfl]
    by_cases g : c = 1 ∧ e = b + 6 ∧ B b = 99 ∧ B (b + 1) = 117 ∧ B (b + 2) = 114 ∧ B (b + 6 - 1) = 101
    · rw [dcd_t g, if_neg (by decide), show (2 : Int32) = nI 2 from rfl, show (97 : Int32) = nI 97 from rfl, show (116 : Int32) = nI 116 from rfl, misSame (L := 6) x k g.2.1 (by omega) (by omega) (by omega) (by omega), bi_some, h102]
      cases dcd (B (b + 2) = 114 ∧ B (b + 2 + 1) = 97 ∧ B (b + 2 + 2) = 116) <;> rfl
    · rw [dcd_f g, if_pos (by decide)]; rfl
  unfold M_kindHere_0 kd
  rw [show (99 : Int32) = nI 99 from rfl, show (104 : Int32) = nI 104 from rfl, show (105 : Int32) = nI 105 from rfl, show (108 : Int32) = nI 108 from rfl, show (100 : Int32) = nI 100 from rfl, misFive (z := 8) x k rfl (by omega) (by omega) (by omega) (by omega) (by omega), bi_some, show (101 : Int32) = nI 101 from rfl, show (114 : Int32) = nI 114 from rfl, misFour (z := 9) x k rfl (by omega) (by omega) (by omega) (by omega), bi_some, show (6 : Int32) = nI 6 from rfl, show (117 : Int32) = nI 117 from rfl, show (110 : Int32) = nI 110 from rfl, misName x k (by omega) (by omega) (by omega) (by omega) (by omega) (by omega), bi_some, h69, qn6 (z := 10) (a1 := 117) (a2 := 114) (a3 := 99) (a4 := 104) (a5 := 105) (a6 := 110) rfl]
  by_cases g : c = 1 ∧ e = b + 6 ∧ B b = 117 ∧ B (b + 1) = 114 ∧ B (b + 2) = 99 ∧ B (b + 6 - 1) = 110
  · rw [dcd_t g, show (2 : Int32) = nI 2 from rfl, misSame (L := 6) x k g.2.1 (by omega) (by omega) (by omega) (by omega), bi_some, h69]
    cases dcd (B (b + 2) = 99 ∧ B (b + 2 + 1) = 104 ∧ B (b + 2 + 2) = 105) <;> cases qn B 8 b e c <;> cases qn B 9 b e c <;> cases qn B 11 b e c <;> cases qn B 12 b e c <;> cases qn B 13 b e c <;> rfl
  · rw [dcd_f g]
    cases qn B 8 b e c <;> cases qn B 9 b e c <;> cases qn B 11 b e c <;> cases qn B 12 b e c <;> cases qn B 13 b e c <;> rfl
noncomputable def lw (B : Nat → Nat) (b e c : Nat) : Nat := if qn B 14 b e c = true then 0 else if qn B 15 b e c = true then 1 else if qn B 16 b e c = true then 2 else if qn B 17 b e c = true then 3 else 4
theorem clawTold (x : TX t B τc τm) (k : CT t B τc p b e c) : C8_lawTold_0 τc = some (if lw B b e c = 4 then -3 else nI (lw B b e c), τc) := by
  unfold C8_lawTold_0 lw
  rw [cisName x k (by omega), bi_some, cisName x k (by omega), bi_some, cisName x k (by omega), bi_some, cisName x k (by omega), bi_some]
  cases qn B 14 b e c <;> cases qn B 15 b e c <;> cases qn B 16 b e c <;> cases qn B 17 b e c <;> rfl
theorem mlawHere (x : TX t B τc τm) (k : MT t B τm p b e c) : M_lawHere_0 τm = some (if lw B b e c = 4 then -1 else nI (3 + lw B b e c), τm) := by
  unfold M_lawHere_0 lw
  rw [show (112 : Int32) = nI 112 from rfl, show (105 : Int32) = nI 105 from rfl, show (101 : Int32) = nI 101 from rfl, show (116 : Int32) = nI 116 from rfl, show (121 : Int32) = nI 121 from rfl, misFive (z := 14) x k rfl (by omega) (by omega) (by omega) (by omega) (by omega), bi_some, show (115 : Int32) = nI 115 from rfl, show (108 : Int32) = nI 108 from rfl, show (117 : Int32) = nI 117 from rfl, show (109 : Int32) = nI 109 from rfl, misFour (z := 15) x k rfl (by omega) (by omega) (by omega) (by omega), bi_some, show (114 : Int32) = nI 114 from rfl, show (111 : Int32) = nI 111 from rfl, misFour (z := 16) x k rfl (by omega) (by omega) (by omega) (by omega), bi_some, misFour (z := 17) x k rfl (by omega) (by omega) (by omega) (by omega), bi_some]
  cases qn B 14 b e c <;> cases qn B 15 b e c <;> cases qn B 16 b e c <;> cases qn B 17 b e c <;> rfl
end NM
