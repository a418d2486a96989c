/-! the two worlds at their start -/
theorem arrV_cong {c : ClassId} {n : Nat} {f g : Nat → Value} (h : ∀ j, j < n → f j = g j) : arrV c n f = arrV c n g := by
  unfold arrV
  have : (Array.ofFn (n := n) fun j => f j.val) = Array.ofFn (n := n) fun j => g j.val := congrArg _ (funext fun j => h j.val j.isLt)
  rw [this]
theorem at_q {D : va_G} {cl : List vw_C} {q n : Nat} {cA : ClassId} {f g : Nat → Option Nat} {H : Heap} (h : va_at D cl (q, .inl (cA, n, .inr (.inr (.inr (.inr f))))) H) (e : ∀ j, j < n → f j = g j) : va_at D cl (q, .inl (cA, n, .inr (.inr (.inr (.inr g))))) H := by
  have h1 : H[q]? = some (vp_cell cA (n, .inr (.inr (.inr (.inr f))))) := h
  show H[q]? = some (vp_cell cA (n, .inr (.inr (.inr (.inr g)))))
  rw [h1, vp_cell_q, vp_cell_q, arrV_cong (fun j hj => by rw [e j hj])]
def lw0 : Nat → Int32 := upd (upd (upd (upd (fun _ => 0) 0 (lfA 0)) 1 (lfA 1)) 2 (lfA 2)) 3 (lfA 3)
def vc0 : Nat → Int32 := upd (upd (upd (upd (upd (upd (upd (upd (fun _ => 0) 0 (nI 50)) 1 (nI 50)) 2 (nI 50)) 3 (nI 50)) 4 (nI 50)) 5 (nI 50)) 6 (nI 50)) 7 (nI 50)
def sC0 : Sg := (fun k => if k = 1 ∨ k = 2 ∨ k = 3 then (fun j => if j = 5 then nI 1 else nI 0) else if k = 4 ∨ k = 5 ∨ k = 6 then lw0 else if k = 7 ∨ k = 8 ∨ k = 9 then vc0 else if k = 23 ∨ k = 25 ∨ k = 27 then ng4 else fun _ => 0, fun _ => 0)
theorem up8 {a : Nat → Nat} {b j : Nat} (hj : j < 8) : va_up (va_up (va_up (va_up (va_up (va_up (va_up (va_up (fun _ => none) 0 (some (a b))) 1 (some (a (b + 1)))) 2 (some (a (b + 2)))) 3 (some (a (b + 3)))) 4 (some (a (b + 4)))) 5 (some (a (b + 5)))) 6 (some (a (b + 6)))) 7 (some (a (b + 7))) j = some (a (b + j)) := by
  rcases (show j = 0 ∨ j = 1 ∨ j = 2 ∨ j = 3 ∨ j = 4 ∨ j = 5 ∨ j = 6 ∨ j = 7 by omega) with rfl | rfl | rfl | rfl | rfl | rfl | rfl | rfl <;> rfl
theorem up6 {a : Nat → Nat} {b j : Nat} (hj : j < 6) : va_up (va_up (va_up (va_up (va_up (va_up (fun _ => none) 0 (some (a b))) 1 (some (a (b + 1)))) 2 (some (a (b + 2)))) 3 (some (a (b + 3)))) 4 (some (a (b + 4)))) 5 (some (a (b + 5))) j = some (a (b + j)) := by
  rcases (show j = 0 ∨ j = 1 ∨ j = 2 ∨ j = 3 ∨ j = 4 ∨ j = 5 by omega) with rfl | rfl | rfl | rfl | rfl | rfl <;> rfl
set_option maxRecDepth 100000 in
theorem convC {D : va_G} {cy : Nat → ClassId} {a : Nat → Nat} {H : Heap} (h : va_P D clG (lC cy a) H) : va_P D clG (gW 59 a (shC cy a sC0)) H := by
  intro k q hk
  obtain ⟨hk, rfl⟩ := gW_inv hk
  match k, hk with
  | 0, _ => exact h 0 _ rfl
  | 1, _ => exact h 1 _ rfl
  | 2, _ => exact h 2 _ rfl
  | 3, _ => exact h 3 _ rfl
  | 4, _ => exact h 4 _ rfl
  | 5, _ => exact h 5 _ rfl
  | 6, _ => exact h 6 _ rfl
  | 7, _ => exact h 7 _ rfl
  | 8, _ => exact h 8 _ rfl
  | 9, _ => exact h 9 _ rfl
  | 10, _ => exact at_q (h 10 _ rfl) (fun j hj => (up8 (a := a) (b := 34) hj).trans (by first | rfl | exact congrArg (fun z => some (a z)) (by omega)))
  | 11, _ => exact at_q (h 11 _ rfl) (fun j hj => (up8 (a := a) (b := 42) hj).trans (by first | rfl | exact congrArg (fun z => some (a z)) (by omega)))
  | 12, _ => exact at_q (h 12 _ rfl) (fun j hj => (up8 (a := a) (b := 50) hj).trans (by first | rfl | exact congrArg (fun z => some (a z)) (by omega)))
  | 13, _ => exact at_q (h 13 _ rfl) (fun j hj => up6 (a := a) (b := 14) hj)
  | 14, _ => exact h 14 _ rfl
  | 15, _ => exact h 15 _ rfl
  | 16, _ => exact h 16 _ rfl
  | 17, _ => exact h 17 _ rfl
  | 18, _ => exact h 18 _ rfl
  | 19, _ => exact h 19 _ rfl
  | 20, _ => exact h 20 _ rfl
  | 21, _ => exact h 21 _ rfl
  | 22, _ => exact h 22 _ rfl
  | 23, _ => exact h 23 _ rfl
  | 24, _ => exact h 24 _ rfl
  | 25, _ => exact h 25 _ rfl
  | 26, _ => exact h 26 _ rfl
  | 27, _ => exact h 27 _ rfl
  | 28, _ => exact h 28 _ rfl
  | 29, _ => exact h 29 _ rfl
  | 30, _ => exact h 30 _ rfl
  | 31, _ => exact h 31 _ rfl
  | 32, _ => exact h 32 _ rfl
  | 33, _ => exact h 33 _ rfl
  | 34, _ => exact h 34 _ rfl
  | 35, _ => exact h 35 _ rfl
  | 36, _ => exact h 36 _ rfl
  | 37, _ => exact h 37 _ rfl
  | 38, _ => exact h 38 _ rfl
  | 39, _ => exact h 39 _ rfl
  | 40, _ => exact h 40 _ rfl
  | 41, _ => exact h 41 _ rfl
  | 42, _ => exact h 42 _ rfl
  | 43, _ => exact h 43 _ rfl
  | 44, _ => exact h 44 _ rfl
  | 45, _ => exact h 45 _ rfl
  | 46, _ => exact h 46 _ rfl
  | 47, _ => exact h 47 _ rfl
  | 48, _ => exact h 48 _ rfl
  | 49, _ => exact h 49 _ rfl
  | 50, _ => exact h 50 _ rfl
  | 51, _ => exact h 51 _ rfl
  | 52, _ => exact h 52 _ rfl
  | 53, _ => exact h 53 _ rfl
  | 54, _ => exact h 54 _ rfl
  | 55, _ => exact h 55 _ rfl
  | 56, _ => exact h 56 _ rfl
  | 57, _ => exact h 57 _ rfl
  | 58, _ => exact h 58 _ rfl
  | k + 59, hk => exact absurd hk (by omega)
set_option maxRecDepth 100000 in
theorem convD {A : Nat → Prop} {cy : Nat → ClassId} {a : Nat → Nat} (h : va_D A (lC cy a)) : va_D A (gW 59 a (shC cy a sC0)) := by
  have key : ∀ k, k < 59 → ∃ e, (lC cy a)[k]? = some (a k, e) := by
    intro k hk
    match k, hk with
    | 0, _ => exact ⟨_, rfl⟩
    | 1, _ => exact ⟨_, rfl⟩
    | 2, _ => exact ⟨_, rfl⟩
    | 3, _ => exact ⟨_, rfl⟩
    | 4, _ => exact ⟨_, rfl⟩
    | 5, _ => exact ⟨_, rfl⟩
    | 6, _ => exact ⟨_, rfl⟩
    | 7, _ => exact ⟨_, rfl⟩
    | 8, _ => exact ⟨_, rfl⟩
    | 9, _ => exact ⟨_, rfl⟩
    | 10, _ => exact ⟨_, rfl⟩
    | 11, _ => exact ⟨_, rfl⟩
    | 12, _ => exact ⟨_, rfl⟩
    | 13, _ => exact ⟨_, rfl⟩
    | 14, _ => exact ⟨_, rfl⟩
    | 15, _ => exact ⟨_, rfl⟩
    | 16, _ => exact ⟨_, rfl⟩
    | 17, _ => exact ⟨_, rfl⟩
    | 18, _ => exact ⟨_, rfl⟩
    | 19, _ => exact ⟨_, rfl⟩
    | 20, _ => exact ⟨_, rfl⟩
    | 21, _ => exact ⟨_, rfl⟩
    | 22, _ => exact ⟨_, rfl⟩
    | 23, _ => exact ⟨_, rfl⟩
    | 24, _ => exact ⟨_, rfl⟩
    | 25, _ => exact ⟨_, rfl⟩
    | 26, _ => exact ⟨_, rfl⟩
    | 27, _ => exact ⟨_, rfl⟩
    | 28, _ => exact ⟨_, rfl⟩
    | 29, _ => exact ⟨_, rfl⟩
    | 30, _ => exact ⟨_, rfl⟩
    | 31, _ => exact ⟨_, rfl⟩
    | 32, _ => exact ⟨_, rfl⟩
    | 33, _ => exact ⟨_, rfl⟩
    | 34, _ => exact ⟨_, rfl⟩
    | 35, _ => exact ⟨_, rfl⟩
    | 36, _ => exact ⟨_, rfl⟩
    | 37, _ => exact ⟨_, rfl⟩
    | 38, _ => exact ⟨_, rfl⟩
    | 39, _ => exact ⟨_, rfl⟩
    | 40, _ => exact ⟨_, rfl⟩
    | 41, _ => exact ⟨_, rfl⟩
    | 42, _ => exact ⟨_, rfl⟩
    | 43, _ => exact ⟨_, rfl⟩
    | 44, _ => exact ⟨_, rfl⟩
    | 45, _ => exact ⟨_, rfl⟩
    | 46, _ => exact ⟨_, rfl⟩
    | 47, _ => exact ⟨_, rfl⟩
    | 48, _ => exact ⟨_, rfl⟩
    | 49, _ => exact ⟨_, rfl⟩
    | 50, _ => exact ⟨_, rfl⟩
    | 51, _ => exact ⟨_, rfl⟩
    | 52, _ => exact ⟨_, rfl⟩
    | 53, _ => exact ⟨_, rfl⟩
    | 54, _ => exact ⟨_, rfl⟩
    | 55, _ => exact ⟨_, rfl⟩
    | 56, _ => exact ⟨_, rfl⟩
    | 57, _ => exact ⟨_, rfl⟩
    | 58, _ => exact ⟨_, rfl⟩
    | k + 59, hk => exact absurd hk (by omega)
  refine ⟨fun i j x y hi hj hxy => ?_, fun k q hk => ?_⟩
  · obtain ⟨h1, rfl⟩ := gW_inv hi
    obtain ⟨h2, rfl⟩ := gW_inv hj
    obtain ⟨e1, k1⟩ := key i h1
    obtain ⟨e2, k2⟩ := key j h2
    exact h.1 i j _ _ k1 k2 hxy
  · obtain ⟨h1, rfl⟩ := gW_inv hk
    obtain ⟨e1, k1⟩ := key k h1
    exact h.2 k (a k, e1) k1
theorem R0 : R sC0 sM1 := by
  have e1 : sM1.1 1 = upd (bgR (rd_ sM0 1 2) (sM0.1 1)) 2 (nI 1) := by
    unfold sM1
    rw [row_same, st_same]
  have e2 : ∀ i, ¬ i = 2 → sM1.1 1 i = bgR (rd_ sM0 1 2) (sM0.1 1) i := fun i hi => by rw [e1]; exact if_neg hi
  have e3 : sM1.1 1 2 = nI 1 := by rw [e1]; exact if_pos rfl
  have ek : ∀ k, ¬ k = 1 → sM1.1 k = sM0.1 k := fun k hk => by unfold sM1; rw [row_k hk, st_k hk]
  obtain ⟨g1, g2, g3, g4, g5, g6⟩ := gr_bgR (z := rd_ sM0 1 2) (g := sM0.1 1)
  refine ⟨⟨0, ⟨by rw [e2 0 (by omega)]; exact g1, by omega, fun i hi => by rw [e2 _ (by omega)]; exact g3 i hi, by rw [e2 _ (by omega)]; exact g4, fun i hi => by rw [e2 _ (by omega)]; exact g5 i hi, fun o ho => absurd ho (by omega)⟩, ?_, ?_, ?_, ?_, fun i hi => ?_, fun i hi => ?_, fun o ho => absurd ho (by omega)⟩, ?_, ?_, ?_, ?_, ?_, ?_⟩
  · rw [e2 7 (by omega), bgR_0 (Or.inr (Or.inr rfl))]; rfl
  · rw [e2 0 (by omega), bgR_0 (Or.inl rfl)]; rfl
  · rw [e2 1 (by omega), bgR_0 (Or.inr (Or.inl rfl))]; rfl
  · rw [e3]; rfl
  · rw [e2 _ (by omega), bgR_law hi]
    rcases (show i = 0 ∨ i = 1 ∨ i = 2 ∨ i = 3 by omega) with rfl | rfl | rfl | rfl <;> rfl
  · rw [e2 _ (by omega), bgR_v hi]
    rcases (show i = 0 ∨ i = 1 ∨ i = 2 ∨ i = 3 ∨ i = 4 ∨ i = 5 ∨ i = 6 ∨ i = 7 by omega) with rfl | rfl | rfl | rfl | rfl | rfl | rfl | rfl <;> rfl
  · exact Or.inl ⟨rfl, by rw [rd_row, ek 0 (by omega)]; rfl⟩
  · exact ⟨0, by omega, rfl, by rw [rd_row, ek 0 (by omega)]; rfl, fun i hi => absurd hi (by omega)⟩
  · exact ⟨0, by omega, rfl, by rw [rd_row, ek 0 (by omega)]; rfl, fun i hi => by rw [rd_row, rd_row, ek 8 (by omega)]; rfl⟩
  · intro t ht
    refine Or.inl ⟨?_, ?_, rfl, by rw [rd_row, ek 10 (by omega)]; rfl⟩
    · rcases (show t = 0 ∨ t = 1 ∨ t = 2 ∨ t = 3 by omega) with rfl | rfl | rfl | rfl <;> rfl
    · rw [rd_row, ek 9 (by omega)]
      rcases (show t = 0 ∨ t = 1 ∨ t = 2 ∨ t = 3 by omega) with rfl | rfl | rfl | rfl <;> rfl
  · intro t ht
    refine Or.inr (Or.inr ⟨by rw [rd_row, ek 12 (by omega)]; rfl, ?_, ?_⟩)
    · rcases (show t = 0 ∨ t = 1 ∨ t = 2 ∨ t = 3 by omega) with rfl | rfl | rfl | rfl <;> rfl
    · rcases (show t = 0 ∨ t = 1 ∨ t = 2 ∨ t = 3 by omega) with rfl | rfl | rfl | rfl <;> rfl
  · exact ⟨0, by omega, rfl, by rw [rd_row, ek 0 (by omega)]; rfl, fun i hi => absurd hi (by omega)⟩
