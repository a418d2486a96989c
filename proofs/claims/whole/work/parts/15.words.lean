def wBX : List Cond := [.methodLink RX3 29 ⟨RX5, "parts", "(ILBoundGodmothers$Deed;)I"⟩, .sameMethod RX5 RX0 "parts" "(ILBoundGodmothers$Deed;)I", .superclass RX3 RX5, .methodLink RX3 33 ⟨RX5, "kicks", "(ILBoundGodmothers$Deed;)I"⟩, .sameMethod RX5 RX0 "kicks" "(ILBoundGodmothers$Deed;)I", .methodLink RX7 25 ⟨RX10, "prays", "(ILBoundGodmothers$Deed;)I"⟩, .sameMethod RX10 RX0 "prays" "(ILBoundGodmothers$Deed;)I", .superclass RX7 RX10, .superclass RX5 RX0, .superclass RX10 RX0]
def wBIG : List Cond := wBX ++ wsX11_act
theorem gBB : wBIG.all goodWord = true := by decide +kernel
theorem gBx {c0 c1 : Cond} {pre : List Cond} (h : (pre ++ [c1]).all (fun w => decide (w ∈ wBIG) && goodWord w) = true) : GoodIn (c0 :: wBIG) (pre ++ (c1 :: wBIG)) := by
  intro w hw
  have h1 : ∀ u ∈ pre ++ [c1], u ∈ wBIG ∧ goodWord u = true := fun u hu => by
    have := List.all_eq_true.mp h u hu
    simpa using this
  have h2 : w ∈ pre ++ [c1] ∨ w ∈ wBIG := by
    rcases List.mem_append.mp hw with q | q
    · exact Or.inl (List.mem_append_left _ q)
    · rcases List.mem_cons.mp q with q | q
      · exact Or.inl (List.mem_append_right _ (by rw [q]; exact List.mem_singleton.mpr rfl))
      · exact Or.inr q
  rcases h2 with q | q
  · exact ⟨List.mem_cons_of_mem _ (h1 w q).1, good_of_word (h1 w q).2⟩
  · exact ⟨List.mem_cons_of_mem _ q, good_of_word (List.all_eq_true.mp gBB w q)⟩
theorem gBu {c0 : Cond} {ws : List Cond} (h : ws.all (fun w => decide (w ∈ wBIG) && goodWord w) = true) : GoodIn (c0 :: wBIG) ws := by
  intro w hw
  have h1 : w ∈ wBIG ∧ goodWord w = true := by
    have := List.all_eq_true.mp h w hw
    simpa using this
  exact ⟨List.mem_cons_of_mem _ h1.1, good_of_word h1.2⟩
theorem gBa {c0 : Cond} {ws : List Cond} (h : GoodIn wsX11_act ws) : GoodIn (c0 :: wBIG) ws := fun w hw => ⟨List.mem_cons_of_mem _ (List.mem_append_right _ (h w hw).1), (h w hw).2⟩
def wSX (own : String) (idx : Nat) (owner : String) (x y : MethodName) (ws : List Cond) : List Cond := ([.methodLink own idx x, .sameMethod x.cls owner x.name x.desc, .superclass own x.cls, .instanceMethod y, .initialized y.cls, .superclass x.cls owner] : List Cond) ++ ws
theorem hinB_X11 : ∀ w ∈ wsX110, w ∈ wBIG := fun _ q => List.mem_append_right _ (List.mem_cons_of_mem _ (List.mem_append_left _ (List.mem_append_left _ (List.mem_append_left _ (List.mem_append_left _ (List.mem_append_right _ q))))))
theorem hinB_X6 : ∀ w ∈ wsX60, w ∈ wBIG := fun _ q => List.mem_append_right _ (List.mem_cons_of_mem _ (List.mem_append_left _ (List.mem_append_left _ (List.mem_append_left _ (List.mem_append_right _ q)))))
theorem hinB_X4 : ∀ w ∈ wsX40, w ∈ wBIG := fun _ q => List.mem_append_right _ (List.mem_cons_of_mem _ (List.mem_append_left _ (List.mem_append_left _ (List.mem_append_right _ q))))
theorem hinB_X2 : ∀ w ∈ wsX20, w ∈ wBIG := fun _ q => List.mem_append_right _ (List.mem_cons_of_mem _ (List.mem_append_left _ (List.mem_append_right _ q)))
theorem hinB_X1 : ∀ w ∈ wsX10, w ∈ wBIG := fun _ q => List.mem_append_right _ (List.mem_cons_of_mem _ (List.mem_append_right _ q))
def wB_X0_kicks : List Cond := .code yX0_kicks cX0_kicks 3 (some .int) :: wBIG
def wB_X3_kicks : List Cond := .code yX3_kicks cX3_kicks 3 (some .int) :: wBIG
def wB_X10_kicks : List Cond := .code yX10_kicks cX10_kicks 3 (some .int) :: wBIG
def wB_X7_kicks : List Cond := .code yX7_kicks cX7_kicks 3 (some .int) :: wBIG
def wB_X0_prays : List Cond := .code yX0_prays cX0_prays 3 (some .int) :: wBIG
def wB_X0_parts : List Cond := .code yX0_parts cX0_parts 3 (some .int) :: wBIG
def wB_X5_prays : List Cond := .code yX5_prays cX5_prays 3 (some .int) :: wBIG
def wB_X7_prays : List Cond := .code yX7_prays cX7_prays 3 (some .int) :: wBIG
def wB_X0_grows : List Cond := .code yX0_grows cX0_grows 3 (some .int) :: wBIG
def wB_X3_parts : List Cond := .code yX3_parts cX3_parts 3 (some .int) :: wBIG
def wB_X9_grows : List Cond := .code yX9_grows cX9_grows 3 (some .int) :: wBIG
def wB_X9_parts : List Cond := .code yX9_parts cX9_parts 3 (some .int) :: wBIG
def wB_X10_grows : List Cond := .code yX10_grows cX10_grows 3 (some .int) :: wBIG
def wB_X11_act : List Cond := .code yX11_act cX11_act 8 (some .int) :: wBIG
set_option maxRecDepth 20000 in
theorem gBX0_kicks_X4_runs : GoodIn wB_X0_kicks (wsV RX0 7 RX4 yX4_runs wsX4_runs) := gBu (by decide +kernel)
set_option maxRecDepth 20000 in
theorem gBX3_kicks_X4_runs : GoodIn wB_X3_kicks (wsV RX3 23 RX4 yX4_runs wsX4_runs) := gBu (by decide +kernel)
set_option maxRecDepth 20000 in
theorem gBX3_kicks_X0_kicks_x33 : GoodIn wB_X3_kicks (wSX RX3 33 RX0 ⟨RX5, "kicks", "(ILBoundGodmothers$Deed;)I"⟩ yX0_kicks wB_X0_kicks) := gBx (by decide +kernel)
set_option maxRecDepth 20000 in
theorem gBX10_kicks_X4_runs : GoodIn wB_X10_kicks (wsV RX10 23 RX4 yX4_runs wsX4_runs) := gBu (by decide +kernel)
set_option maxRecDepth 20000 in
theorem gBX10_kicks_X0_kicks_s29 : GoodIn wB_X10_kicks (va_wsSU RX10 29 yX0_kicks wB_X0_kicks) := gBx (by decide +kernel)
set_option maxRecDepth 20000 in
theorem gBX7_kicks_X4_runs : GoodIn wB_X7_kicks (wsV RX7 15 RX4 yX4_runs wsX4_runs) := gBu (by decide +kernel)
set_option maxRecDepth 20000 in
theorem gBX7_kicks_X10_kicks_s21 : GoodIn wB_X7_kicks (va_wsSU RX7 21 yX10_kicks wB_X10_kicks) := gBx (by decide +kernel)
set_option maxRecDepth 20000 in
theorem gBX0_prays_X4_runs : GoodIn wB_X0_prays (wsV RX0 7 RX4 yX4_runs wsX4_runs) := gBu (by decide +kernel)
set_option maxRecDepth 20000 in
theorem gBX0_prays_X0_kicks : GoodIn wB_X0_prays (wsV RX0 17 RX0 yX0_kicks wB_X0_kicks) := gBx (by decide +kernel)
set_option maxRecDepth 20000 in
theorem gBX0_prays_X3_kicks_u17X3 : GoodIn wB_X0_prays (va_wsO RX0 17 RX3 "BoundGodmothers$Child" ⟨"BoundGodmothers$Child", "kicks", "(ILBoundGodmothers$Deed;)I"⟩ yX3_kicks wB_X3_kicks) := gBx (by decide +kernel)
set_option maxRecDepth 20000 in
theorem gBX0_prays_X0_kicks_u17X5 : GoodIn wB_X0_prays (va_wsU RX0 17 RX5 "BoundGodmothers$Child" ⟨"BoundGodmothers$Child", "kicks", "(ILBoundGodmothers$Deed;)I"⟩ yX0_kicks wB_X0_kicks) := gBx (by decide +kernel)
set_option maxRecDepth 20000 in
theorem gBX0_prays_X7_kicks_u17X7 : GoodIn wB_X0_prays (va_wsO RX0 17 RX7 "BoundGodmothers$Child" ⟨"BoundGodmothers$Child", "kicks", "(ILBoundGodmothers$Deed;)I"⟩ yX7_kicks wB_X7_kicks) := gBx (by decide +kernel)
set_option maxRecDepth 20000 in
theorem gBX0_prays_X0_kicks_u17X9 : GoodIn wB_X0_prays (va_wsU RX0 17 RX9 "BoundGodmothers$Child" ⟨"BoundGodmothers$Child", "kicks", "(ILBoundGodmothers$Deed;)I"⟩ yX0_kicks wB_X0_kicks) := gBx (by decide +kernel)
set_option maxRecDepth 20000 in
theorem gBX0_prays_X10_kicks_u17X10 : GoodIn wB_X0_prays (va_wsO RX0 17 RX10 "BoundGodmothers$Child" ⟨"BoundGodmothers$Child", "kicks", "(ILBoundGodmothers$Deed;)I"⟩ yX10_kicks wB_X10_kicks) := gBx (by decide +kernel)
set_option maxRecDepth 20000 in
theorem gBX0_parts_X4_runs : GoodIn wB_X0_parts (wsV RX0 7 RX4 yX4_runs wsX4_runs) := gBu (by decide +kernel)
set_option maxRecDepth 20000 in
theorem gBX0_parts_X4_parted : GoodIn wB_X0_parts (wsV RX0 26 RX4 yX4_parted wsX4_parted) := gBu (by decide +kernel)
set_option maxRecDepth 20000 in
theorem gBX5_prays_X4_runs : GoodIn wB_X5_prays (wsV RX5 15 RX4 yX4_runs wsX4_runs) := gBu (by decide +kernel)
set_option maxRecDepth 20000 in
theorem gBX5_prays_X0_prays_s21 : GoodIn wB_X5_prays (va_wsSU RX5 21 yX0_prays wB_X0_prays) := gBx (by decide +kernel)
set_option maxRecDepth 20000 in
theorem gBX7_prays_X4_runs : GoodIn wB_X7_prays (wsV RX7 15 RX4 yX4_runs wsX4_runs) := gBu (by decide +kernel)
set_option maxRecDepth 20000 in
theorem gBX7_prays_X7_kicks : GoodIn wB_X7_prays (wsV RX7 32 RX7 yX7_kicks wB_X7_kicks) := gBx (by decide +kernel)
set_option maxRecDepth 20000 in
theorem gBX7_prays_X0_prays_x25 : GoodIn wB_X7_prays (wSX RX7 25 RX0 ⟨RX10, "prays", "(ILBoundGodmothers$Deed;)I"⟩ yX0_prays wB_X0_prays) := gBx (by decide +kernel)
set_option maxRecDepth 20000 in
theorem gBX0_grows_X4_runs : GoodIn wB_X0_grows (wsV RX0 7 RX4 yX4_runs wsX4_runs) := gBu (by decide +kernel)
set_option maxRecDepth 20000 in
theorem gBX0_grows_X0_prays : GoodIn wB_X0_grows (wsV RX0 30 RX0 yX0_prays wB_X0_prays) := gBx (by decide +kernel)
set_option maxRecDepth 20000 in
theorem gBX0_grows_X5_prays_u30X3 : GoodIn wB_X0_grows (va_wsO RX0 30 RX3 "BoundGodmothers$Child" ⟨"BoundGodmothers$Child", "prays", "(ILBoundGodmothers$Deed;)I"⟩ yX5_prays wB_X5_prays) := gBx (by decide +kernel)
set_option maxRecDepth 20000 in
theorem gBX0_grows_X5_prays_u30X5 : GoodIn wB_X0_grows (va_wsO RX0 30 RX5 "BoundGodmothers$Child" ⟨"BoundGodmothers$Child", "prays", "(ILBoundGodmothers$Deed;)I"⟩ yX5_prays wB_X5_prays) := gBx (by decide +kernel)
set_option maxRecDepth 20000 in
theorem gBX0_grows_X7_prays_u30X7 : GoodIn wB_X0_grows (va_wsO RX0 30 RX7 "BoundGodmothers$Child" ⟨"BoundGodmothers$Child", "prays", "(ILBoundGodmothers$Deed;)I"⟩ yX7_prays wB_X7_prays) := gBx (by decide +kernel)
set_option maxRecDepth 20000 in
theorem gBX0_grows_X0_prays_u30X9 : GoodIn wB_X0_grows (va_wsU RX0 30 RX9 "BoundGodmothers$Child" ⟨"BoundGodmothers$Child", "prays", "(ILBoundGodmothers$Deed;)I"⟩ yX0_prays wB_X0_prays) := gBx (by decide +kernel)
set_option maxRecDepth 20000 in
theorem gBX0_grows_X0_prays_u30X10 : GoodIn wB_X0_grows (va_wsU RX0 30 RX10 "BoundGodmothers$Child" ⟨"BoundGodmothers$Child", "prays", "(ILBoundGodmothers$Deed;)I"⟩ yX0_prays wB_X0_prays) := gBx (by decide +kernel)
set_option maxRecDepth 20000 in
theorem gBX3_parts_X4_runs : GoodIn wB_X3_parts (wsV RX3 23 RX4 yX4_runs wsX4_runs) := gBu (by decide +kernel)
set_option maxRecDepth 20000 in
theorem gBX3_parts_X0_parts_x29 : GoodIn wB_X3_parts (wSX RX3 29 RX0 ⟨RX5, "parts", "(ILBoundGodmothers$Deed;)I"⟩ yX0_parts wB_X0_parts) := gBx (by decide +kernel)
set_option maxRecDepth 20000 in
theorem gBX9_grows_X4_runs : GoodIn wB_X9_grows (wsV RX9 11 RX4 yX4_runs wsX4_runs) := gBu (by decide +kernel)
set_option maxRecDepth 20000 in
theorem gBX9_grows_X0_grows_s17 : GoodIn wB_X9_grows (va_wsSU RX9 17 yX0_grows wB_X0_grows) := gBx (by decide +kernel)
set_option maxRecDepth 20000 in
theorem gBX9_parts_X4_runs : GoodIn wB_X9_parts (wsV RX9 11 RX4 yX4_runs wsX4_runs) := gBu (by decide +kernel)
set_option maxRecDepth 20000 in
theorem gBX9_parts_X0_parts_s21 : GoodIn wB_X9_parts (va_wsSU RX9 21 yX0_parts wB_X0_parts) := gBx (by decide +kernel)
set_option maxRecDepth 20000 in
theorem gBX9_parts_X0_kicks_u28X9 : GoodIn wB_X9_parts (va_wsU RX9 28 RX9 "BoundGodmothers$Child" ⟨"BoundGodmothers$Twin", "kicks", "(ILBoundGodmothers$Deed;)I"⟩ yX0_kicks wB_X0_kicks) := gBx (by decide +kernel)
set_option maxRecDepth 20000 in
theorem gBX10_grows_X4_runs : GoodIn wB_X10_grows (wsV RX10 23 RX4 yX4_runs wsX4_runs) := gBu (by decide +kernel)
set_option maxRecDepth 20000 in
theorem gBX10_grows_X0_grows_s33 : GoodIn wB_X10_grows (va_wsSU RX10 33 yX0_grows wB_X0_grows) := gBx (by decide +kernel)
set_option maxRecDepth 20000 in
theorem gBX10_grows_X0_parts_u40X7 : GoodIn wB_X10_grows (va_wsU RX10 40 RX7 "BoundGodmothers$Child" ⟨"BoundGodmothers$Urchin", "parts", "(ILBoundGodmothers$Deed;)I"⟩ yX0_parts wB_X0_parts) := gBx (by decide +kernel)
set_option maxRecDepth 20000 in
theorem gBX10_grows_X0_parts_u40X10 : GoodIn wB_X10_grows (va_wsU RX10 40 RX10 "BoundGodmothers$Child" ⟨"BoundGodmothers$Urchin", "parts", "(ILBoundGodmothers$Deed;)I"⟩ yX0_parts wB_X0_parts) := gBx (by decide +kernel)
set_option maxRecDepth 20000 in
theorem gBX11_act_X2_shelvedChild : GoodIn wB_X11_act (wsV RX11 331 RX2 yX2_shelvedChild wsX2_shelvedChild) := gBa gX11_act_X2_shelvedChild
set_option maxRecDepth 20000 in
theorem gBX11_act_X1_life : GoodIn wB_X11_act (wsV RX11 131 RX1 yX1_life wsX1_life) := gBa gX11_act_X1_life
set_option maxRecDepth 20000 in
theorem gBX11_act_X4_begin : GoodIn wB_X11_act (wsV RX11 342 RX4 yX4_begin wsX4_begin) := gBa gX11_act_X4_begin
set_option maxRecDepth 20000 in
theorem gBX11_act_X1_kindOf : GoodIn wB_X11_act (wsV RX11 334 RX1 yX1_kindOf wsX1_kindOf) := gBa gX11_act_X1_kindOf
set_option maxRecDepth 20000 in
theorem gBX11_act_X0_kicks : GoodIn wB_X11_act (wsV RX11 344 RX0 yX0_kicks wB_X0_kicks) := gBx (by decide +kernel)
set_option maxRecDepth 20000 in
theorem gBX11_act_X3_kicks_u344X3 : GoodIn wB_X11_act (va_wsO RX11 344 RX3 "BoundGodmothers$Child" ⟨"BoundGodmothers$Child", "kicks", "(ILBoundGodmothers$Deed;)I"⟩ yX3_kicks wB_X3_kicks) := gBx (by decide +kernel)
set_option maxRecDepth 20000 in
theorem gBX11_act_X0_kicks_u344X5 : GoodIn wB_X11_act (va_wsU RX11 344 RX5 "BoundGodmothers$Child" ⟨"BoundGodmothers$Child", "kicks", "(ILBoundGodmothers$Deed;)I"⟩ yX0_kicks wB_X0_kicks) := gBx (by decide +kernel)
set_option maxRecDepth 20000 in
theorem gBX11_act_X7_kicks_u344X7 : GoodIn wB_X11_act (va_wsO RX11 344 RX7 "BoundGodmothers$Child" ⟨"BoundGodmothers$Child", "kicks", "(ILBoundGodmothers$Deed;)I"⟩ yX7_kicks wB_X7_kicks) := gBx (by decide +kernel)
set_option maxRecDepth 20000 in
theorem gBX11_act_X0_kicks_u344X9 : GoodIn wB_X11_act (va_wsU RX11 344 RX9 "BoundGodmothers$Child" ⟨"BoundGodmothers$Child", "kicks", "(ILBoundGodmothers$Deed;)I"⟩ yX0_kicks wB_X0_kicks) := gBx (by decide +kernel)
set_option maxRecDepth 20000 in
theorem gBX11_act_X10_kicks_u344X10 : GoodIn wB_X11_act (va_wsO RX11 344 RX10 "BoundGodmothers$Child" ⟨"BoundGodmothers$Child", "kicks", "(ILBoundGodmothers$Deed;)I"⟩ yX10_kicks wB_X10_kicks) := gBx (by decide +kernel)
set_option maxRecDepth 20000 in
theorem gBX11_act_X0_prays : GoodIn wB_X11_act (wsV RX11 348 RX0 yX0_prays wB_X0_prays) := gBx (by decide +kernel)
set_option maxRecDepth 20000 in
theorem gBX11_act_X5_prays_u348X3 : GoodIn wB_X11_act (va_wsO RX11 348 RX3 "BoundGodmothers$Child" ⟨"BoundGodmothers$Child", "prays", "(ILBoundGodmothers$Deed;)I"⟩ yX5_prays wB_X5_prays) := gBx (by decide +kernel)
set_option maxRecDepth 20000 in
theorem gBX11_act_X5_prays_u348X5 : GoodIn wB_X11_act (va_wsO RX11 348 RX5 "BoundGodmothers$Child" ⟨"BoundGodmothers$Child", "prays", "(ILBoundGodmothers$Deed;)I"⟩ yX5_prays wB_X5_prays) := gBx (by decide +kernel)
set_option maxRecDepth 20000 in
theorem gBX11_act_X7_prays_u348X7 : GoodIn wB_X11_act (va_wsO RX11 348 RX7 "BoundGodmothers$Child" ⟨"BoundGodmothers$Child", "prays", "(ILBoundGodmothers$Deed;)I"⟩ yX7_prays wB_X7_prays) := gBx (by decide +kernel)
set_option maxRecDepth 20000 in
theorem gBX11_act_X0_prays_u348X9 : GoodIn wB_X11_act (va_wsU RX11 348 RX9 "BoundGodmothers$Child" ⟨"BoundGodmothers$Child", "prays", "(ILBoundGodmothers$Deed;)I"⟩ yX0_prays wB_X0_prays) := gBx (by decide +kernel)
set_option maxRecDepth 20000 in
theorem gBX11_act_X0_prays_u348X10 : GoodIn wB_X11_act (va_wsU RX11 348 RX10 "BoundGodmothers$Child" ⟨"BoundGodmothers$Child", "prays", "(ILBoundGodmothers$Deed;)I"⟩ yX0_prays wB_X0_prays) := gBx (by decide +kernel)
set_option maxRecDepth 20000 in
theorem gBX11_act_X0_parts : GoodIn wB_X11_act (wsV RX11 351 RX0 yX0_parts wB_X0_parts) := gBx (by decide +kernel)
set_option maxRecDepth 20000 in
theorem gBX11_act_X3_parts_u351X3 : GoodIn wB_X11_act (va_wsO RX11 351 RX3 "BoundGodmothers$Child" ⟨"BoundGodmothers$Child", "parts", "(ILBoundGodmothers$Deed;)I"⟩ yX3_parts wB_X3_parts) := gBx (by decide +kernel)
set_option maxRecDepth 20000 in
theorem gBX11_act_X0_parts_u351X5 : GoodIn wB_X11_act (va_wsU RX11 351 RX5 "BoundGodmothers$Child" ⟨"BoundGodmothers$Child", "parts", "(ILBoundGodmothers$Deed;)I"⟩ yX0_parts wB_X0_parts) := gBx (by decide +kernel)
set_option maxRecDepth 20000 in
theorem gBX11_act_X0_parts_u351X7 : GoodIn wB_X11_act (va_wsU RX11 351 RX7 "BoundGodmothers$Child" ⟨"BoundGodmothers$Child", "parts", "(ILBoundGodmothers$Deed;)I"⟩ yX0_parts wB_X0_parts) := gBx (by decide +kernel)
set_option maxRecDepth 20000 in
theorem gBX11_act_X9_parts_u351X9 : GoodIn wB_X11_act (va_wsO RX11 351 RX9 "BoundGodmothers$Child" ⟨"BoundGodmothers$Child", "parts", "(ILBoundGodmothers$Deed;)I"⟩ yX9_parts wB_X9_parts) := gBx (by decide +kernel)
set_option maxRecDepth 20000 in
theorem gBX11_act_X0_parts_u351X10 : GoodIn wB_X11_act (va_wsU RX11 351 RX10 "BoundGodmothers$Child" ⟨"BoundGodmothers$Child", "parts", "(ILBoundGodmothers$Deed;)I"⟩ yX0_parts wB_X0_parts) := gBx (by decide +kernel)
set_option maxRecDepth 20000 in
theorem gBX11_act_X0_grows : GoodIn wB_X11_act (wsV RX11 354 RX0 yX0_grows wB_X0_grows) := gBx (by decide +kernel)
set_option maxRecDepth 20000 in
theorem gBX11_act_X0_grows_u354X3 : GoodIn wB_X11_act (va_wsU RX11 354 RX3 "BoundGodmothers$Child" ⟨"BoundGodmothers$Child", "grows", "(ILBoundGodmothers$Deed;)I"⟩ yX0_grows wB_X0_grows) := gBx (by decide +kernel)
set_option maxRecDepth 20000 in
theorem gBX11_act_X0_grows_u354X5 : GoodIn wB_X11_act (va_wsU RX11 354 RX5 "BoundGodmothers$Child" ⟨"BoundGodmothers$Child", "grows", "(ILBoundGodmothers$Deed;)I"⟩ yX0_grows wB_X0_grows) := gBx (by decide +kernel)
set_option maxRecDepth 20000 in
theorem gBX11_act_X10_grows_u354X7 : GoodIn wB_X11_act (va_wsO RX11 354 RX7 "BoundGodmothers$Child" ⟨"BoundGodmothers$Child", "grows", "(ILBoundGodmothers$Deed;)I"⟩ yX10_grows wB_X10_grows) := gBx (by decide +kernel)
set_option maxRecDepth 20000 in
theorem gBX11_act_X9_grows_u354X9 : GoodIn wB_X11_act (va_wsO RX11 354 RX9 "BoundGodmothers$Child" ⟨"BoundGodmothers$Child", "grows", "(ILBoundGodmothers$Deed;)I"⟩ yX9_grows wB_X9_grows) := gBx (by decide +kernel)
set_option maxRecDepth 20000 in
theorem gBX11_act_X10_grows_u354X10 : GoodIn wB_X11_act (va_wsO RX11 354 RX10 "BoundGodmothers$Child" ⟨"BoundGodmothers$Child", "grows", "(ILBoundGodmothers$Deed;)I"⟩ yX10_grows wB_X10_grows) := gBx (by decide +kernel)
theorem sub1 {s : State} {args : Array Value} {A B : String} {ca cb : ClassId} (ha : s.vm.findClass A = some ca) (hsup : (Cond.superclass A B).before args s = true) (hb : s.vm.findClass B = some cb) : s.vm.isSubclass ca cb = true := by
  obtain ⟨ps, dk, kp, hps, hdk, hkp, hsuper, -, -, hnid⟩ := Cond.superclass_spec ha hsup
  cases hps.symm.trans hb
  have hlt : 0 < s.vm.classes.size := Nat.lt_of_le_of_lt (Nat.zero_le _) (Array.getElem?_eq_some_iff.mp hdk).1
  obtain ⟨k, hk⟩ : ∃ k, s.vm.classes.size = k + 1 := ⟨s.vm.classes.size - 1, by omega⟩
  simp [Vm.isSubclass, Vm.isSubclassAux, hdk, hsuper, hk]
section SX
variable {p : Program} {l : Launch} {e : Env} {R : Room} {s : State} {m : MethodId} {args : Array Value} {below : List Frame} {meth : Method} {c : Code} {H : Heap} {locs : List Loc}
variable {cc : ByteArray} {own : String} {Ts : List Cond} {nL : Nat} {ret : Option FieldType} {n : Nat} {a : Nat → Nat} {D : va_G} {cy : Nat → ClassId} {Xf : XF} {w : Nat → va_E} {pc : Nat} {ls : Array Slot} {rest st0 : List Value}
/-- super.m(..) where the superclass itself inherits m -/
theorem rSX_ {x y : MethodName} {ws ws' : List Cond} {rm : Room} {bytes : ByteArray} {maxL index nn : Nat} {rt : Option FieldType} {C owner : String} {Qc : Array Value → State → Outcome → State → Prop} {As : List Value} {k ci N : Nat} {fs : List Value} {T : u_T} (X : cx_ cc own Ts nL ret n a D cy Xf p s m args meth c) (hX : xk_ Xf) (I : iv_ n a D w s H locs) (hM : Met l y ws rm (va_Pc (.ref (a k) :: As) (pr_ n a D cy w Xf H.size)) Qc 0 0 (fr_ n a H.size)) (hT : GoodIn Ts (wSX own index owner x y ws)) (hw : ws = Cond.code y bytes maxL rt :: ws') (hz : rm.cells = 0 ∧ rm.slots = 0)
    (hyx : y = ⟨owner, x.name, x.desc⟩) (hd : x.name ≠ "<init>" ∧ (parseMethodDescriptor y.desc).map (fun d => d.parameters.length) = some nn) (hR : rm.frames + 1 ≤ R.frames ∧ 8 + (maxL + 11) + rm.locals ≤ R.locals) (hk : k < n) (he : w k = .inr (ci, fs)) (hc : clG[ci]? = some (C, T, N)) (hn : As.length = nn) (hls : ls.size = nL) (hst : st0 = As.reverse ++ .ref (a k) :: rest) (hrm : (rest.map fun v => v.category).sum ≤ 8) (hdg : decode cc pc = .ok (.invokespecial index, 3)) :
    va_Run p l e R s m args below meth c H locs 0 0 0 0 (F0 m pc ls st0) rest (Qc (Value.ref (a k) :: As).toArray) (fr_ n a H.size) := by
  obtain ⟨hx, hb, hr, hml, hown, hts, hlk, hK, hA, hXf⟩ := X
  have ok : ∀ w ∈ wSX own index owner x y ws, w.before args s = true := fun w h => hts w (hT w h).1
  have hG : GoodIn Ts ws := fun w h => hT w (by unfold wSX; exact List.mem_append_right _ h)
  have hcw : Cond.code y bytes maxL rt ∈ ws := by rw [hw]; exact List.mem_cons_self
  have hlink := ok (.methodLink own index x) (by simp [wSX])
  have hsame := ok (.sameMethod x.cls owner x.name x.desc) (by simp [wSX])
  have hsup := ok (.superclass own x.cls) (by simp [wSX])
  have hinst := ok (.instanceMethod y) (by simp [wSX])
  have hini := ok (.initialized y.cls) (by simp [wSX])
  have hsup2 := ok (.superclass x.cls owner) (by simp [wSX])
  have hcode := hts _ (hG _ hcw).1
  have hB : Back l R p e below s args y 3 8 (PreOf R 0 0 (va_Pc (.ref (a k) :: As) (pr_ n a D cy w Xf H.size))) (PostOf Qc 0 0 (fr_ n a H.size)) := back_of (bytes := bytes) (maxL := maxL) (ret := rt) hM (pr_blind hX) hz.1 hz.2 hR.1 hR.2 (pay_in hts hG) hcw (fun a' U hW => word_at hW (Or.inl (by first | rfl | simp [Cond.onTables, Cond.keeps, Cond.steady])) hini)
  obtain ⟨cellB, hcB, hoB, hclB⟩ := va_recv hK I.1 hc (by rw [gW_get hk, he])
  obtain ⟨hfc, kB, hkB, -⟩ := (hK.1 ci _ hc).2
  have ecl : D.1 ci = cellB.cls := Option.some.inj (hfc.symm.trans hclB)
  rw [ecl] at hkB
  obtain ⟨mk, methM, hnamed, hmethM, hstM, habM⟩ := Cond.instanceMethod_spec hinst
  obtain ⟨methM', cM, hmethM', -, -, -, -, -, -, hsigM⟩ := Cond.code_spec hnamed hcode
  cases hmethM.symm.trans hmethM'
  obtain ⟨ps, dk, kp, hps, hdk, hkp, hsuper, -, -, hnid⟩ := Cond.superclass_spec hown hsup
  subst hyx
  have hsub : s.vm.isSubclass ps mk.cls = true := sub1 hps hsup2 (findClass_of_methodNamed hnamed)
  have hlen : As.length = methM.sig.parameters.length := by
    have h2 := hd.2
    rw [hsigM] at h2
    exact hn.trans (Option.some.inj h2).symm
  intro T hT X
  obtain ⟨vm₁, X₁, hstep₁⟩ := X.invokespecialUp hx hown hlink hsame hnamed hmethM hstM habM hd.1 hdk hnid hps hsuper hsub (a := a k) (cell := cellB) (by rw [hT]; exact hcB) (fun z h => by rw [h] at hoB; cases hoB) hkB (g := F0 m pc ls st0) rfl (argsL := As) (rest := rest) hlen hst (by rw [hb]; exact hdg)
  obtain ⟨v, ⟨U', l2, c2, s2⟩, X', ⟨g', mk', t, L, e1, e2, hq, h1, hL, h2, h3⟩, hsteps⟩ := hB m meth c ⟨T.setVm vm₁, locs, 0, 0⟩ { (F0 m pc ls st0) with stack := rest } (.invokespecial index) mk (Value.ref (a k) :: As).toArray X₁ rfl (hls.trans hml.symm) (by rw [hb]; exact hdg) (lv_room (rest := rest) (pc := pc) (ls := ls) (m := m) hrm) (X₁.named hnamed) ⟨Nat.zero_le _, Nat.zero_le _, rfl, pr_at hX hK hA hXf I hT X₁.warmed⟩
  dsimp only [Pt.U, Pt.locs, Pt.cells, Pt.slots] at X' e1 e2 h1 h2 h3 hsteps
  subst h1; subst h2; subst h3
  exact ⟨v, (T.setVm vm₁).calling g' mk' (Value.ref (a k) :: As).toArray, t, U', L, hT, X', hL, e1, e2, hq, fun target h => hstep₁ _ (by rw [doInvoke_state]; exact hsteps.trans h)⟩
end SX

