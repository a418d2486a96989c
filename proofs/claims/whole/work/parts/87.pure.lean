/-! constructors that make nothing -/
theorem dfX0 : ∀ j, j < 0 → defaultValue (tyX0 j) = vp_V [] j := fun j hj => absurd hj (by omega)
theorem dfX1 : ∀ j, j < 8 → defaultValue (tyX1 j) = vp_V [.null, .null, .int 0, .int 0, .int 0, .int 0, .null, .null] j := fun j hj => by rcases (show j = 0 ∨ j = 1 ∨ j = 2 ∨ j = 3 ∨ j = 4 ∨ j = 5 ∨ j = 6 ∨ j = 7 by omega) with rfl | rfl | rfl | rfl | rfl | rfl | rfl | rfl <;> rfl
theorem dfX2 : ∀ j, j < 6 → defaultValue (tyX2 j) = vp_V [.null, .null, .null, .null, .null, .null] j := fun j hj => by rcases (show j = 0 ∨ j = 1 ∨ j = 2 ∨ j = 3 ∨ j = 4 ∨ j = 5 by omega) with rfl | rfl | rfl | rfl | rfl | rfl <;> rfl
theorem dfX3 : ∀ j, j < 0 → defaultValue (tyX3 j) = vp_V [] j := fun j hj => absurd hj (by omega)
theorem dfX4 : ∀ j, j < 5 → defaultValue (tyX4 j) = vp_V [.null, .int 0, .int 0, .int 0, .int 0] j := fun j hj => by rcases (show j = 0 ∨ j = 1 ∨ j = 2 ∨ j = 3 ∨ j = 4 by omega) with rfl | rfl | rfl | rfl | rfl <;> rfl
theorem dfX5 : ∀ j, j < 0 → defaultValue (tyX5 j) = vp_V [] j := fun j hj => absurd hj (by omega)
theorem dfX6 : ∀ j, j < 6 → defaultValue (tyX6 j) = vp_V [.int 0, .int 0, .int 0, .int 0, .int 0, .int 0] j := fun j hj => by rcases (show j = 0 ∨ j = 1 ∨ j = 2 ∨ j = 3 ∨ j = 4 ∨ j = 5 by omega) with rfl | rfl | rfl | rfl | rfl | rfl <;> rfl
theorem dfX7 : ∀ j, j < 0 → defaultValue (tyX7 j) = vp_V [] j := fun j hj => absurd hj (by omega)
theorem dfX8 : ∀ j, j < 6 → defaultValue (tyX8 j) = vp_V [.int 0, .null, .int 0, .int 0, .int 0, .int 0] j := fun j hj => by rcases (show j = 0 ∨ j = 1 ∨ j = 2 ∨ j = 3 ∨ j = 4 ∨ j = 5 by omega) with rfl | rfl | rfl | rfl | rfl | rfl <;> rfl
theorem dfX9 : ∀ j, j < 0 → defaultValue (tyX9 j) = vp_V [] j := fun j hj => absurd hj (by omega)
theorem dfX10 : ∀ j, j < 0 → defaultValue (tyX10 j) = vp_V [] j := fun j hj => absurd hj (by omega)
theorem dfX11 : ∀ j, j < 12 → defaultValue (tyX11 j) = vp_V [.null, .null, .null, .null, .null, .null, .null, .null, .null, .null, .int 0, .int 0] j := fun j hj => by rcases (show j = 0 ∨ j = 1 ∨ j = 2 ∨ j = 3 ∨ j = 4 ∨ j = 5 ∨ j = 6 ∨ j = 7 ∨ j = 8 ∨ j = 9 ∨ j = 10 ∨ j = 11 by omega) with rfl | rfl | rfl | rfl | rfl | rfl | rfl | rfl | rfl | rfl | rfl | rfl <;> rfl
theorem dfX12 : ∀ j, j < 28 → defaultValue (tyX12 j) = vp_V [.null, .null, .null, .null, .int 0, .null, .int 0, .int 0, .int 0, .int 0, .int 0, .int 0, .null, .null, .null, .int 0, .null, .null, .null, .null, .null, .null, .null, .int 0, .int 0, .int 0, .int 0, .int 0] j := fun j hj => by rcases (show j = 0 ∨ j = 1 ∨ j = 2 ∨ j = 3 ∨ j = 4 ∨ j = 5 ∨ j = 6 ∨ j = 7 ∨ j = 8 ∨ j = 9 ∨ j = 10 ∨ j = 11 ∨ j = 12 ∨ j = 13 ∨ j = 14 ∨ j = 15 ∨ j = 16 ∨ j = 17 ∨ j = 18 ∨ j = 19 ∨ j = 20 ∨ j = 21 ∨ j = 22 ∨ j = 23 ∨ j = 24 ∨ j = 25 ∨ j = 26 ∨ j = 27 by omega) with rfl | rfl | rfl | rfl | rfl | rfl | rfl | rfl | rfl | rfl | rfl | rfl | rfl | rfl | rfl | rfl | rfl | rfl | rfl | rfl | rfl | rfl | rfl | rfl | rfl | rfl | rfl | rfl <;> rfl
theorem zint_ {n : Nat} : ∀ cA : ClassId, vp_cell cA (n, .inl (fun _ => 0)) = arrV cA n (fun _ => defaultValue .int) := fun _ => rfl
theorem zbyte_ {n : Nat} : ∀ cA : ClassId, vp_cell cA (n, .inl (fun _ => 0)) = arrV cA n (fun _ => defaultValue .byte) := fun _ => rfl
theorem zlong_ {n : Nat} : ∀ cA : ClassId, vp_cell cA (n, .inr (.inl (fun _ => 0))) = arrV cA n (fun _ => defaultValue .long) := fun _ => rfl
theorem ci_X0 {l : Launch} {b : Nat} : Met l yX0_init wsX0_init ({ frames := 1, cells := 0, slots := 0, locals := 12 }) (pp_ [.ref b]) (qp_ none) 0 0 (fun _ => False) := by
  refine enp_ (by decide) rfl (Nat.le_of_ble_eq_true rfl) ?_
  intro p e s m below meth c ls X hl
  obtain ⟨hx, hb, hr, hml, hown, hts, hlk⟩ := id X
  refine lv_aload_n hx hb dX0_init_0 rfl (lv_at hl 0 rfl) ?_
  refine lob_ (nL := 1) hx hb hml hown hts (by decide +kernel) (by decide +kernel) (List.mem_of_getElem? (i := 3) rfl) hl.1 ⟨Nat.le_of_ble_eq_true rfl, Nat.le_of_ble_eq_true rfl⟩ dX0_init_1 ?_
  exact rpv_ X dX0_init_4
theorem ci_X6 {l : Launch} {b : Nat} : Met l yX6_init wsX6_init ({ frames := 1, cells := 0, slots := 0, locals := 12 }) (pp_ [.ref b]) (qp_ none) 0 0 (fun _ => False) := by
  refine enp_ (by decide) rfl (Nat.le_of_ble_eq_true rfl) ?_
  intro p e s m below meth c ls X hl
  obtain ⟨hx, hb, hr, hml, hown, hts, hlk⟩ := id X
  refine lv_aload_n hx hb dX6_init_0 rfl (lv_at hl 0 rfl) ?_
  refine lob_ (nL := 1) hx hb hml hown hts (by decide +kernel) (by decide +kernel) (List.mem_of_getElem? (i := 3) rfl) hl.1 ⟨Nat.le_of_ble_eq_true rfl, Nat.le_of_ble_eq_true rfl⟩ dX6_init_1 ?_
  exact rpv_ X dX6_init_4
theorem ci_X5 {l : Launch} {b : Nat} : Met l yX5_init wsX5_init ({ frames := 2, cells := 0, slots := 0, locals := 32 }) (pp_ [.ref b]) (qp_ none) 0 0 (fun _ => False) := by
  refine enp_ (by decide) rfl (Nat.le_of_ble_eq_true rfl) ?_
  intro p e s m below meth c ls X hl
  obtain ⟨hx, hb, hr, hml, hown, hts, hlk⟩ := id X
  refine lv_aload_n hx hb dX5_init_0 rfl (lv_at hl 0 rfl) ?_
  refine cpv_ (rI_ (b := b) (nn := 0) (As := []) (rest := []) ⟨hx, hb, hml, hown, hts⟩ ci_X0 gX5_init_X0_init rfl ⟨rfl, rfl⟩ (by decide +kernel) (by decide +kernel) (by decide +kernel) rfl (by decide +kernel) ⟨Nat.le_of_ble_eq_true rfl, Nat.le_of_ble_eq_true rfl⟩ rfl hl.1 rfl (Nat.le_of_ble_eq_true rfl) dX5_init_1 ⟨Nat.zero_le _, Nat.zero_le _⟩) ?_
  exact rpv_ X dX5_init_4
theorem ci_X10 {l : Launch} {b : Nat} : Met l yX10_init wsX10_init ({ frames := 2, cells := 0, slots := 0, locals := 32 }) (pp_ [.ref b]) (qp_ none) 0 0 (fun _ => False) := by
  refine enp_ (by decide) rfl (Nat.le_of_ble_eq_true rfl) ?_
  intro p e s m below meth c ls X hl
  obtain ⟨hx, hb, hr, hml, hown, hts, hlk⟩ := id X
  refine lv_aload_n hx hb dX10_init_0 rfl (lv_at hl 0 rfl) ?_
  refine cpv_ (rI_ (b := b) (nn := 0) (As := []) (rest := []) ⟨hx, hb, hml, hown, hts⟩ ci_X0 gX10_init_X0_init rfl ⟨rfl, rfl⟩ (by decide +kernel) (by decide +kernel) (by decide +kernel) rfl (by decide +kernel) ⟨Nat.le_of_ble_eq_true rfl, Nat.le_of_ble_eq_true rfl⟩ rfl hl.1 rfl (Nat.le_of_ble_eq_true rfl) dX10_init_1 ⟨Nat.zero_le _, Nat.zero_le _⟩) ?_
  exact rpv_ X dX10_init_4
theorem ci_X9 {l : Launch} {b : Nat} : Met l yX9_init wsX9_init ({ frames := 2, cells := 0, slots := 0, locals := 32 }) (pp_ [.ref b]) (qp_ none) 0 0 (fun _ => False) := by
  refine enp_ (by decide) rfl (Nat.le_of_ble_eq_true rfl) ?_
  intro p e s m below meth c ls X hl
  obtain ⟨hx, hb, hr, hml, hown, hts, hlk⟩ := id X
  refine lv_aload_n hx hb dX9_init_0 rfl (lv_at hl 0 rfl) ?_
  refine cpv_ (rI_ (b := b) (nn := 0) (As := []) (rest := []) ⟨hx, hb, hml, hown, hts⟩ ci_X0 gX9_init_X0_init rfl ⟨rfl, rfl⟩ (by decide +kernel) (by decide +kernel) (by decide +kernel) rfl (by decide +kernel) ⟨Nat.le_of_ble_eq_true rfl, Nat.le_of_ble_eq_true rfl⟩ rfl hl.1 rfl (Nat.le_of_ble_eq_true rfl) dX9_init_1 ⟨Nat.zero_le _, Nat.zero_le _⟩) ?_
  exact rpv_ X dX9_init_4
theorem ci_X3 {l : Launch} {b : Nat} : Met l yX3_init wsX3_init ({ frames := 3, cells := 0, slots := 0, locals := 52 }) (pp_ [.ref b]) (qp_ none) 0 0 (fun _ => False) := by
  refine enp_ (by decide) rfl (Nat.le_of_ble_eq_true rfl) ?_
  intro p e s m below meth c ls X hl
  obtain ⟨hx, hb, hr, hml, hown, hts, hlk⟩ := id X
  refine lv_aload_n hx hb dX3_init_0 rfl (lv_at hl 0 rfl) ?_
  refine cpv_ (rI_ (b := b) (nn := 0) (As := []) (rest := []) ⟨hx, hb, hml, hown, hts⟩ ci_X5 gX3_init_X5_init rfl ⟨rfl, rfl⟩ (by decide +kernel) (by decide +kernel) (by decide +kernel) rfl (by decide +kernel) ⟨Nat.le_of_ble_eq_true rfl, Nat.le_of_ble_eq_true rfl⟩ rfl hl.1 rfl (Nat.le_of_ble_eq_true rfl) dX3_init_1 ⟨Nat.zero_le _, Nat.zero_le _⟩) ?_
  exact rpv_ X dX3_init_4
theorem ci_X7 {l : Launch} {b : Nat} : Met l yX7_init wsX7_init ({ frames := 3, cells := 0, slots := 0, locals := 52 }) (pp_ [.ref b]) (qp_ none) 0 0 (fun _ => False) := by
  refine enp_ (by decide) rfl (Nat.le_of_ble_eq_true rfl) ?_
  intro p e s m below meth c ls X hl
  obtain ⟨hx, hb, hr, hml, hown, hts, hlk⟩ := id X
  refine lv_aload_n hx hb dX7_init_0 rfl (lv_at hl 0 rfl) ?_
  refine cpv_ (rI_ (b := b) (nn := 0) (As := []) (rest := []) ⟨hx, hb, hml, hown, hts⟩ ci_X10 gX7_init_X10_init rfl ⟨rfl, rfl⟩ (by decide +kernel) (by decide +kernel) (by decide +kernel) rfl (by decide +kernel) ⟨Nat.le_of_ble_eq_true rfl, Nat.le_of_ble_eq_true rfl⟩ rfl hl.1 rfl (Nat.le_of_ble_eq_true rfl) dX7_init_1 ⟨Nat.zero_le _, Nat.zero_le _⟩) ?_
  exact rpv_ X dX7_init_4
