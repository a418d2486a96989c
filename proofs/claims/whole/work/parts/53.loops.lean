theorem lg1 {A1 β : Type} {F : (A1 → Option β) → A1 → Option β} {z : A1 → Option β} (N : Nat) (p1 : Nat → A1) (r : Option β) (hs : ∀ (K : A1 → Option β) (i : Nat), i < N → F K (p1 i) = K (p1 (i + 1))) (he : ∀ K : A1 → Option β, F K (p1 N) = r) {n : Nat} (hn : N < n) : lp_ F z n (p1 0) = r := by
  have key : ∀ m i, i + m = N → ∀ n, m < n → lp_ F z n (p1 i) = r := by
    intro m
    induction m with
    | zero =>
      intro i hi n hn
      obtain ⟨q, rfl⟩ : ∃ q, n = q + 1 := ⟨n - 1, by omega⟩
      have e : i = N := by omega
      subst e
      exact he _
    | succ m ih =>
      intro i hi n hn
      obtain ⟨q, rfl⟩ : ∃ q, n = q + 1 := ⟨n - 1, by omega⟩
      exact (hs _ i (by omega)).trans (ih (i + 1) (by omega) q (by omega))
  exact key N 0 (by omega) n hn
theorem lg2 {A1 A2 β : Type} {F : (A1 → A2 → Option β) → A1 → A2 → Option β} {z : A1 → A2 → Option β} (N : Nat) (p1 : Nat → A1) (p2 : Nat → A2) (r : Option β) (hs : ∀ (K : A1 → A2 → Option β) (i : Nat), i < N → F K (p1 i) (p2 i) = K (p1 (i + 1)) (p2 (i + 1))) (he : ∀ K : A1 → A2 → Option β, F K (p1 N) (p2 N) = r) {n : Nat} (hn : N < n) : lp_ F z n (p1 0) (p2 0) = r := by
  have key : ∀ m i, i + m = N → ∀ n, m < n → lp_ F z n (p1 i) (p2 i) = r := by
    intro m
    induction m with
    | zero =>
      intro i hi n hn
      obtain ⟨q, rfl⟩ : ∃ q, n = q + 1 := ⟨n - 1, by omega⟩
      have e : i = N := by omega
      subst e
      exact he _
    | succ m ih =>
      intro i hi n hn
      obtain ⟨q, rfl⟩ : ∃ q, n = q + 1 := ⟨n - 1, by omega⟩
      exact (hs _ i (by omega)).trans (ih (i + 1) (by omega) q (by omega))
  exact key N 0 (by omega) n hn
theorem lg3 {A1 A2 A3 β : Type} {F : (A1 → A2 → A3 → Option β) → A1 → A2 → A3 → Option β} {z : A1 → A2 → A3 → Option β} (N : Nat) (p1 : Nat → A1) (p2 : Nat → A2) (p3 : Nat → A3) (r : Option β) (hs : ∀ (K : A1 → A2 → A3 → Option β) (i : Nat), i < N → F K (p1 i) (p2 i) (p3 i) = K (p1 (i + 1)) (p2 (i + 1)) (p3 (i + 1))) (he : ∀ K : A1 → A2 → A3 → Option β, F K (p1 N) (p2 N) (p3 N) = r) {n : Nat} (hn : N < n) : lp_ F z n (p1 0) (p2 0) (p3 0) = r := by
  have key : ∀ m i, i + m = N → ∀ n, m < n → lp_ F z n (p1 i) (p2 i) (p3 i) = r := by
    intro m
    induction m with
    | zero =>
      intro i hi n hn
      obtain ⟨q, rfl⟩ : ∃ q, n = q + 1 := ⟨n - 1, by omega⟩
      have e : i = N := by omega
      subst e
      exact he _
    | succ m ih =>
      intro i hi n hn
      obtain ⟨q, rfl⟩ : ∃ q, n = q + 1 := ⟨n - 1, by omega⟩
      exact (hs _ i (by omega)).trans (ih (i + 1) (by omega) q (by omega))
  exact key N 0 (by omega) n hn
theorem lg4 {A1 A2 A3 A4 β : Type} {F : (A1 → A2 → A3 → A4 → Option β) → A1 → A2 → A3 → A4 → Option β} {z : A1 → A2 → A3 → A4 → Option β} (N : Nat) (p1 : Nat → A1) (p2 : Nat → A2) (p3 : Nat → A3) (p4 : Nat → A4) (r : Option β) (hs : ∀ (K : A1 → A2 → A3 → A4 → Option β) (i : Nat), i < N → F K (p1 i) (p2 i) (p3 i) (p4 i) = K (p1 (i + 1)) (p2 (i + 1)) (p3 (i + 1)) (p4 (i + 1))) (he : ∀ K : A1 → A2 → A3 → A4 → Option β, F K (p1 N) (p2 N) (p3 N) (p4 N) = r) {n : Nat} (hn : N < n) : lp_ F z n (p1 0) (p2 0) (p3 0) (p4 0) = r := by
  have key : ∀ m i, i + m = N → ∀ n, m < n → lp_ F z n (p1 i) (p2 i) (p3 i) (p4 i) = r := by
    intro m
    induction m with
    | zero =>
      intro i hi n hn
      obtain ⟨q, rfl⟩ : ∃ q, n = q + 1 := ⟨n - 1, by omega⟩
      have e : i = N := by omega
      subst e
      exact he _
    | succ m ih =>
      intro i hi n hn
      obtain ⟨q, rfl⟩ : ∃ q, n = q + 1 := ⟨n - 1, by omega⟩
      exact (hs _ i (by omega)).trans (ih (i + 1) (by omega) q (by omega))
  exact key N 0 (by omega) n hn
theorem lg5 {A1 A2 A3 A4 A5 β : Type} {F : (A1 → A2 → A3 → A4 → A5 → Option β) → A1 → A2 → A3 → A4 → A5 → Option β} {z : A1 → A2 → A3 → A4 → A5 → Option β} (N : Nat) (p1 : Nat → A1) (p2 : Nat → A2) (p3 : Nat → A3) (p4 : Nat → A4) (p5 : Nat → A5) (r : Option β) (hs : ∀ (K : A1 → A2 → A3 → A4 → A5 → Option β) (i : Nat), i < N → F K (p1 i) (p2 i) (p3 i) (p4 i) (p5 i) = K (p1 (i + 1)) (p2 (i + 1)) (p3 (i + 1)) (p4 (i + 1)) (p5 (i + 1))) (he : ∀ K : A1 → A2 → A3 → A4 → A5 → Option β, F K (p1 N) (p2 N) (p3 N) (p4 N) (p5 N) = r) {n : Nat} (hn : N < n) : lp_ F z n (p1 0) (p2 0) (p3 0) (p4 0) (p5 0) = r := by
  have key : ∀ m i, i + m = N → ∀ n, m < n → lp_ F z n (p1 i) (p2 i) (p3 i) (p4 i) (p5 i) = r := by
    intro m
    induction m with
    | zero =>
      intro i hi n hn
      obtain ⟨q, rfl⟩ : ∃ q, n = q + 1 := ⟨n - 1, by omega⟩
      have e : i = N := by omega
      subst e
      exact he _
    | succ m ih =>
      intro i hi n hn
      obtain ⟨q, rfl⟩ : ∃ q, n = q + 1 := ⟨n - 1, by omega⟩
      exact (hs _ i (by omega)).trans (ih (i + 1) (by omega) q (by omega))
  exact key N 0 (by omega) n hn
theorem lg6 {A1 A2 A3 A4 A5 A6 β : Type} {F : (A1 → A2 → A3 → A4 → A5 → A6 → Option β) → A1 → A2 → A3 → A4 → A5 → A6 → Option β} {z : A1 → A2 → A3 → A4 → A5 → A6 → Option β} (N : Nat) (p1 : Nat → A1) (p2 : Nat → A2) (p3 : Nat → A3) (p4 : Nat → A4) (p5 : Nat → A5) (p6 : Nat → A6) (r : Option β) (hs : ∀ (K : A1 → A2 → A3 → A4 → A5 → A6 → Option β) (i : Nat), i < N → F K (p1 i) (p2 i) (p3 i) (p4 i) (p5 i) (p6 i) = K (p1 (i + 1)) (p2 (i + 1)) (p3 (i + 1)) (p4 (i + 1)) (p5 (i + 1)) (p6 (i + 1))) (he : ∀ K : A1 → A2 → A3 → A4 → A5 → A6 → Option β, F K (p1 N) (p2 N) (p3 N) (p4 N) (p5 N) (p6 N) = r) {n : Nat} (hn : N < n) : lp_ F z n (p1 0) (p2 0) (p3 0) (p4 0) (p5 0) (p6 0) = r := by
  have key : ∀ m i, i + m = N → ∀ n, m < n → lp_ F z n (p1 i) (p2 i) (p3 i) (p4 i) (p5 i) (p6 i) = r := by
    intro m
    induction m with
    | zero =>
      intro i hi n hn
      obtain ⟨q, rfl⟩ : ∃ q, n = q + 1 := ⟨n - 1, by omega⟩
      have e : i = N := by omega
      subst e
      exact he _
    | succ m ih =>
      intro i hi n hn
      obtain ⟨q, rfl⟩ : ∃ q, n = q + 1 := ⟨n - 1, by omega⟩
      exact (hs _ i (by omega)).trans (ih (i + 1) (by omega) q (by omega))
  exact key N 0 (by omega) n hn
theorem lg7 {A1 A2 A3 A4 A5 A6 A7 β : Type} {F : (A1 → A2 → A3 → A4 → A5 → A6 → A7 → Option β) → A1 → A2 → A3 → A4 → A5 → A6 → A7 → Option β} {z : A1 → A2 → A3 → A4 → A5 → A6 → A7 → Option β} (N : Nat) (p1 : Nat → A1) (p2 : Nat → A2) (p3 : Nat → A3) (p4 : Nat → A4) (p5 : Nat → A5) (p6 : Nat → A6) (p7 : Nat → A7) (r : Option β) (hs : ∀ (K : A1 → A2 → A3 → A4 → A5 → A6 → A7 → Option β) (i : Nat), i < N → F K (p1 i) (p2 i) (p3 i) (p4 i) (p5 i) (p6 i) (p7 i) = K (p1 (i + 1)) (p2 (i + 1)) (p3 (i + 1)) (p4 (i + 1)) (p5 (i + 1)) (p6 (i + 1)) (p7 (i + 1))) (he : ∀ K : A1 → A2 → A3 → A4 → A5 → A6 → A7 → Option β, F K (p1 N) (p2 N) (p3 N) (p4 N) (p5 N) (p6 N) (p7 N) = r) {n : Nat} (hn : N < n) : lp_ F z n (p1 0) (p2 0) (p3 0) (p4 0) (p5 0) (p6 0) (p7 0) = r := by
  have key : ∀ m i, i + m = N → ∀ n, m < n → lp_ F z n (p1 i) (p2 i) (p3 i) (p4 i) (p5 i) (p6 i) (p7 i) = r := by
    intro m
    induction m with
    | zero =>
      intro i hi n hn
      obtain ⟨q, rfl⟩ : ∃ q, n = q + 1 := ⟨n - 1, by omega⟩
      have e : i = N := by omega
      subst e
      exact he _
    | succ m ih =>
      intro i hi n hn
      obtain ⟨q, rfl⟩ : ∃ q, n = q + 1 := ⟨n - 1, by omega⟩
      exact (hs _ i (by omega)).trans (ih (i + 1) (by omega) q (by omega))
  exact key N 0 (by omega) n hn
theorem FU_gt {N : Nat} (h : N < 300) : N < FU := h
/-- a whole row becomes another -/
def st_ (σ : Sg) (k : Nat) (f : Nat → Int32) : Sg := (va_up σ.1 k f, σ.2)
def fl (f g : Nat → Int32) (i : Nat) : Nat → Int32 := fun j => if j < i then f j else g j
theorem fl_0 (f g : Nat → Int32) : fl f g 0 = g := by funext j; simp [fl]
theorem fl_s (f g : Nat → Int32) (i : Nat) : upd (fl f g i) i (f i) = fl f g (i + 1) := by
  funext j
  unfold upd fl
  by_cases h : j = i
  · subst h; simp
  · by_cases h2 : j < i
    · rw [if_neg h, if_pos h2, if_pos (by omega)]
    · rw [if_neg h, if_neg h2, if_neg (by omega)]
theorem st_self (σ : Sg) (k : Nat) : st_ σ k (σ.1 k) = σ := by
  refine Prod.ext ?_ rfl
  funext q
  by_cases h : q = k
  · subst h; simp [st_, va_up]
  · simp [st_, va_up, h]
theorem st_same (σ : Sg) (k : Nat) (f : Nat → Int32) : (st_ σ k f).1 k = f := by simp [st_, va_up]
theorem st_k {σ : Sg} {k : Nat} {f : Nat → Int32} {q : Nat} (h : ¬ q = k) : (st_ σ k f).1 q = σ.1 q := by simp [st_, va_up, h]
theorem rd_st (σ : Sg) (k : Nat) (f : Nat → Int32) (j : Nat) : rd_ (st_ σ k f) k j = f j := by rw [rd_row, st_same]
theorem rd_stk {σ : Sg} {k : Nat} {f : Nat → Int32} {q j : Nat} (h : ¬ q = k) : rd_ (st_ σ k f) q j = rd_ σ q j := by rw [rd_row, st_k h]; rfl
theorem wr_st (σ : Sg) (k : Nat) (f : Nat → Int32) (j : Nat) (v : Int32) : wr_ (st_ σ k f) k j v = st_ σ k (upd f j v) := by
  refine Prod.ext ?_ rfl
  funext q
  by_cases h : q = k
  · subst h; simp [wr_, st_, va_up]
  · simp [wr_, st_, va_up, h]
theorem wr_as_st (σ : Sg) (k j : Nat) (v : Int32) : wr_ σ k j v = st_ σ k (upd (σ.1 k) j v) := rfl
theorem st_st (σ : Sg) (k : Nat) (f g : Nat → Int32) : st_ (st_ σ k f) k g = st_ σ k g := by
  refine Prod.ext ?_ rfl
  funext q
  by_cases h : q = k
  · subst h; simp [st_, va_up]
  · simp [st_, va_up, h]
theorem ag.st {S : Nat → Nat → Prop} {σ τ : Sg} (h1 : ag S σ τ) {k : Nat} {f : Nat → Int32} (h : ∀ j, S k j ∨ f j = rd_ τ k j) : ag S σ (st_ τ k f) := by
  refine ⟨fun k' j' h' => ?_, fun i => h1.2 i⟩
  by_cases e : k' = k
  · subst e
    rw [rd_st]
    rcases h j' with q | q
    · exact absurd q h'
    · rw [q]; exact h1.1 _ _ h'
  · rw [rd_stk e]; exact h1.1 _ _ h'
theorem copyRow_1_4 (σ : Sg) : M_copyRow_1_4_0 σ = some ((), st_ σ 4 (fl (σ.1 1) (σ.1 4) 64)) := by
  unfold M_copyRow_1_4_0
  have := lg2 (F := M_copyRow_1_4_2) (z := fun _ _ => none) 64 (fun i => st_ σ 4 (fl (σ.1 1) (σ.1 4) i)) (fun i => nI i) (some ((), st_ σ 4 (fl (σ.1 1) (σ.1 4) 64))) ?_ ?_ (FU_gt (by omega))
  · simp only [fl_0, st_self] at this
    exact this
  · intro K i hi
    unfold M_copyRow_1_4_2
    simp (disch := omega) only [lit, nI_leI, if_neg, in_nI, gd_tt, nI_clamp, lt_eq, nI_add, wr_st, rd_stk]
    rw [rd_row, fl_s]
  · intro K
    unfold M_copyRow_1_4_2
    simp only [lit, Int32.le_refl, if_true]
theorem copyRow_4_1 (σ : Sg) : M_copyRow_4_1_0 σ = some ((), st_ σ 1 (fl (σ.1 4) (σ.1 1) 64)) := by
  unfold M_copyRow_4_1_0
  have := lg2 (F := M_copyRow_4_1_2) (z := fun _ _ => none) 64 (fun i => st_ σ 1 (fl (σ.1 4) (σ.1 1) i)) (fun i => nI i) (some ((), st_ σ 1 (fl (σ.1 4) (σ.1 1) 64))) ?_ ?_ (FU_gt (by omega))
  · simp only [fl_0, st_self] at this
    exact this
  · intro K i hi
    unfold M_copyRow_4_1_2
    simp (disch := omega) only [lit, nI_leI, if_neg, in_nI, gd_tt, nI_clamp, lt_eq, nI_add, wr_st, rd_stk]
    rw [rd_row, fl_s]
  · intro K
    unfold M_copyRow_4_1_2
    simp only [lit, Int32.le_refl, if_true]
theorem copyRow_1_3 (σ : Sg) : M_copyRow_1_3_0 σ = some ((), st_ σ 3 (fl (σ.1 1) (σ.1 3) 64)) := by
  unfold M_copyRow_1_3_0
  have := lg2 (F := M_copyRow_1_3_2) (z := fun _ _ => none) 64 (fun i => st_ σ 3 (fl (σ.1 1) (σ.1 3) i)) (fun i => nI i) (some ((), st_ σ 3 (fl (σ.1 1) (σ.1 3) 64))) ?_ ?_ (FU_gt (by omega))
  · simp only [fl_0, st_self] at this
    exact this
  · intro K i hi
    unfold M_copyRow_1_3_2
    simp (disch := omega) only [lit, nI_leI, if_neg, in_nI, gd_tt, nI_clamp, lt_eq, nI_add, wr_st, rd_stk]
    rw [rd_row, fl_s]
  · intro K
    unfold M_copyRow_1_3_2
    simp only [lit, Int32.le_refl, if_true]
theorem copyRow_3_1 (σ : Sg) : M_copyRow_3_1_0 σ = some ((), st_ σ 1 (fl (σ.1 3) (σ.1 1) 64)) := by
  unfold M_copyRow_3_1_0
  have := lg2 (F := M_copyRow_3_1_2) (z := fun _ _ => none) 64 (fun i => st_ σ 1 (fl (σ.1 3) (σ.1 1) i)) (fun i => nI i) (some ((), st_ σ 1 (fl (σ.1 3) (σ.1 1) 64))) ?_ ?_ (FU_gt (by omega))
  · simp only [fl_0, st_self] at this
    exact this
  · intro K i hi
    unfold M_copyRow_3_1_2
    simp (disch := omega) only [lit, nI_leI, if_neg, in_nI, gd_tt, nI_clamp, lt_eq, nI_add, wr_st, rd_stk]
    rw [rd_row, fl_s]
  · intro K
    unfold M_copyRow_3_1_2
    simp only [lit, Int32.le_refl, if_true]
theorem become_at {σ : Sg} {x y : Nat} (hx : x < 25) (hy : y < 25) (hxy : ¬ y = x) : C6_become_0 σ x y = some ((), st_ σ (34 + x) (fl (σ.1 (34 + y)) (σ.1 (34 + x)) 6)) := by
  unfold C6_become_0
  simp (disch := omega) only [lf_tt, gd_tt, lt_eq, rd_k]
  refine congrArg (fun q => some ((), q)) ?_
  simp only [wr_as_st, st_st, st_same, rd_row]
  refine congrArg (st_ σ (34 + x)) ?_
  funext j
  unfold upd fl
  by_cases h0 : j = 0
  · subst h0; simp
  by_cases h1 : j = 1
  · subst h1; simp
  by_cases h2 : j = 2
  · subst h2; simp
  by_cases h3 : j = 3
  · subst h3; simp
  by_cases h4 : j = 4
  · subst h4; simp
  by_cases h5 : j = 5
  · subst h5; simp
  rw [if_neg h5, if_neg h4, if_neg h3, if_neg h2, if_neg h1, if_neg h0, if_neg (by omega)]
/-- i lives from place s on come to place d on -/
def cpl (σ : Sg) (d s i : Nat) : Sg := (fun k => if d ≤ k ∧ k < d + i then fl (σ.1 (s + (k - d))) (σ.1 k) 6 else σ.1 k, σ.2)
theorem cpl_0 (σ : Sg) (d s : Nat) : cpl σ d s 0 = σ := by
  refine Prod.ext ?_ rfl
  funext k
  simp only [cpl]
  rw [if_neg (by omega)]
theorem cpl_s {σ : Sg} {d s i : Nat} (h : s + i < d ∨ d + i < s) (h2 : s + i < d ∨ d + 8 ≤ s) : st_ (cpl σ d s i) (d + i) (fl ((cpl σ d s i).1 (s + i)) ((cpl σ d s i).1 (d + i)) 6) = cpl σ d s (i + 1) := by
  refine Prod.ext ?_ rfl
  funext k
  by_cases e : k = d + i
  · subst e
    rw [st_same]
    simp only [cpl]
    rw [if_neg (by omega), if_neg (by omega), if_pos (by omega), show s + (d + i - d) = s + i by omega]
  · rw [st_k e]
    simp only [cpl]
    by_cases q : d ≤ k ∧ k < d + i
    · rw [if_pos q, if_pos (by omega)]
    · rw [if_neg q, if_neg (by omega)]
def bec_2_1 (σ : Sg) : Sg :=
  let τ := cpl (st_ (st_ σ 5 (fl (σ.1 4) (σ.1 5) 4)) 8 (fl (σ.1 7) (σ.1 8) 8)) 42 34 8
  wr_ (wr_ (wr_ (wr_ τ 2 2 (rd_ σ 1 2)) 2 3 (rd_ σ 1 3)) 2 4 (rd_ σ 1 4)) 2 5 (rd_ σ 1 5)
theorem become_2_1 (σ : Sg) : C1_become_2_1_0 σ = some ((), bec_2_1 σ) := by
  have h3 : ∀ τ : Sg, lp_ C1_become_2_1_53 (fun _ _ => none) FU τ (nI 0) = some ((), wr_ (wr_ (wr_ (wr_ (cpl τ 42 34 8) 2 2 (rd_ τ 1 2)) 2 3 (rd_ τ 1 3)) 2 4 (rd_ τ 1 4)) 2 5 (rd_ τ 1 5)) := by
    intro τ
    have := lg2 (F := C1_become_2_1_53) (z := fun _ _ => none) 8 (fun i => cpl τ 42 34 i) (fun i => nI i) (some ((), wr_ (wr_ (wr_ (wr_ (cpl τ 42 34 8) 2 2 (rd_ τ 1 2)) 2 3 (rd_ τ 1 3)) 2 4 (rd_ τ 1 4)) 2 5 (rd_ τ 1 5))) ?_ ?_ (FU_gt (by omega))
    · simp only [cpl_0] at this
      exact this
    · intro K i hi
      unfold C1_become_2_1_53
      simp (disch := omega) only [lit, nI_leI, if_neg, in_nI, gd_tt, nI_clamp, lt_eq, nI_add, lf_tt, become_at, bi_some]
      have e := cpl_s (σ := τ) (d := 42) (s := 34) (i := i) (by omega) (by omega)
      rw [show 34 + (8 + i) = 42 + i by omega, show 34 + (i) = 34 + i by omega, e]
    · intro K
      unfold C1_become_2_1_53
      simp (disch := omega) only [lit, Int32.le_refl, if_true, lt_eq, rd_k]
      have e : ∀ j, rd_ (cpl τ 42 34 8) 1 j = rd_ τ 1 j := fun j => by
        simp only [rd_row, cpl]
        rw [if_neg (by omega)]
      simp only [e]
  have h2 : ∀ τ : Sg, lp_ C1_become_2_1_27 (fun _ _ => none) FU τ (nI 0) = lp_ C1_become_2_1_53 (fun _ _ => none) FU (st_ τ 8 (fl (τ.1 7) (τ.1 8) 8)) (nI 0) := by
    intro τ
    have := lg2 (F := C1_become_2_1_27) (z := fun _ _ => none) 8 (fun i => st_ τ 8 (fl (τ.1 7) (τ.1 8) i)) (fun i => nI i) (lp_ C1_become_2_1_53 (fun _ _ => none) FU (st_ τ 8 (fl (τ.1 7) (τ.1 8) 8)) (nI 0)) ?_ ?_ (FU_gt (by omega))
    · simp only [fl_0, st_self] at this
      exact this
    · intro K i hi
      unfold C1_become_2_1_27
      simp (disch := omega) only [lit, nI_leI, if_neg, in_nI, gd_tt, nI_clamp, lt_eq, nI_add, wr_st, rd_stk]
      rw [rd_row, fl_s]
    · intro K
      unfold C1_become_2_1_27
      simp only [lit, Int32.le_refl, if_true]
  unfold C1_become_2_1_0
  have := lg2 (F := C1_become_2_1_2) (z := fun _ _ => none) 4 (fun i => st_ σ 5 (fl (σ.1 4) (σ.1 5) i)) (fun i => nI i) (some ((), bec_2_1 σ)) ?_ ?_ (FU_gt (by omega))
  · simp only [fl_0, st_self] at this
    exact this
  · intro K i hi
    unfold C1_become_2_1_2
    simp (disch := omega) only [lit, nI_leI, if_neg, in_nI, gd_tt, nI_clamp, lt_eq, nI_add, wr_st, rd_stk]
    rw [rd_row, fl_s]
  · intro K
    unfold C1_become_2_1_2
    simp only [lit, Int32.le_refl, if_true, h2, h3]
    simp (disch := omega) only [bec_2_1, rd_stk, st_k]
def bec_1_2 (σ : Sg) : Sg :=
  let τ := cpl (st_ (st_ σ 4 (fl (σ.1 5) (σ.1 4) 4)) 7 (fl (σ.1 8) (σ.1 7) 8)) 34 42 8
  wr_ (wr_ (wr_ (wr_ τ 1 2 (rd_ σ 2 2)) 1 3 (rd_ σ 2 3)) 1 4 (rd_ σ 2 4)) 1 5 (rd_ σ 2 5)
theorem become_1_2 (σ : Sg) : C1_become_1_2_0 σ = some ((), bec_1_2 σ) := by
  have h3 : ∀ τ : Sg, lp_ C1_become_1_2_53 (fun _ _ => none) FU τ (nI 0) = some ((), wr_ (wr_ (wr_ (wr_ (cpl τ 34 42 8) 1 2 (rd_ τ 2 2)) 1 3 (rd_ τ 2 3)) 1 4 (rd_ τ 2 4)) 1 5 (rd_ τ 2 5)) := by
    intro τ
    have := lg2 (F := C1_become_1_2_53) (z := fun _ _ => none) 8 (fun i => cpl τ 34 42 i) (fun i => nI i) (some ((), wr_ (wr_ (wr_ (wr_ (cpl τ 34 42 8) 1 2 (rd_ τ 2 2)) 1 3 (rd_ τ 2 3)) 1 4 (rd_ τ 2 4)) 1 5 (rd_ τ 2 5))) ?_ ?_ (FU_gt (by omega))
    · simp only [cpl_0] at this
      exact this
    · intro K i hi
      unfold C1_become_1_2_53
      simp (disch := omega) only [lit, nI_leI, if_neg, in_nI, gd_tt, nI_clamp, lt_eq, nI_add, lf_tt, become_at, bi_some]
      have e := cpl_s (σ := τ) (d := 34) (s := 42) (i := i) (by omega) (by omega)
      rw [show 34 + (i) = 34 + i by omega, show 34 + (8 + i) = 42 + i by omega, e]
    · intro K
      unfold C1_become_1_2_53
      simp (disch := omega) only [lit, Int32.le_refl, if_true, lt_eq, rd_k]
      have e : ∀ j, rd_ (cpl τ 34 42 8) 2 j = rd_ τ 2 j := fun j => by
        simp only [rd_row, cpl]
        rw [if_neg (by omega)]
      simp only [e]
  have h2 : ∀ τ : Sg, lp_ C1_become_1_2_27 (fun _ _ => none) FU τ (nI 0) = lp_ C1_become_1_2_53 (fun _ _ => none) FU (st_ τ 7 (fl (τ.1 8) (τ.1 7) 8)) (nI 0) := by
    intro τ
    have := lg2 (F := C1_become_1_2_27) (z := fun _ _ => none) 8 (fun i => st_ τ 7 (fl (τ.1 8) (τ.1 7) i)) (fun i => nI i) (lp_ C1_become_1_2_53 (fun _ _ => none) FU (st_ τ 7 (fl (τ.1 8) (τ.1 7) 8)) (nI 0)) ?_ ?_ (FU_gt (by omega))
    · simp only [fl_0, st_self] at this
      exact this
    · intro K i hi
      unfold C1_become_1_2_27
      simp (disch := omega) only [lit, nI_leI, if_neg, in_nI, gd_tt, nI_clamp, lt_eq, nI_add, wr_st, rd_stk]
      rw [rd_row, fl_s]
    · intro K
      unfold C1_become_1_2_27
      simp only [lit, Int32.le_refl, if_true]
  unfold C1_become_1_2_0
  have := lg2 (F := C1_become_1_2_2) (z := fun _ _ => none) 4 (fun i => st_ σ 4 (fl (σ.1 5) (σ.1 4) i)) (fun i => nI i) (some ((), bec_1_2 σ)) ?_ ?_ (FU_gt (by omega))
  · simp only [fl_0, st_self] at this
    exact this
  · intro K i hi
    unfold C1_become_1_2_2
    simp (disch := omega) only [lit, nI_leI, if_neg, in_nI, gd_tt, nI_clamp, lt_eq, nI_add, wr_st, rd_stk]
    rw [rd_row, fl_s]
  · intro K
    unfold C1_become_1_2_2
    simp only [lit, Int32.le_refl, if_true, h2, h3]
    simp (disch := omega) only [bec_1_2, rd_stk, st_k]
def bec_1_3 (σ : Sg) : Sg :=
  let τ := cpl (st_ (st_ σ 4 (fl (σ.1 6) (σ.1 4) 4)) 7 (fl (σ.1 9) (σ.1 7) 8)) 34 50 8
  wr_ (wr_ (wr_ (wr_ τ 1 2 (rd_ σ 3 2)) 1 3 (rd_ σ 3 3)) 1 4 (rd_ σ 3 4)) 1 5 (rd_ σ 3 5)
theorem become_1_3 (σ : Sg) : C1_become_1_3_0 σ = some ((), bec_1_3 σ) := by
  have h3 : ∀ τ : Sg, lp_ C1_become_1_3_53 (fun _ _ => none) FU τ (nI 0) = some ((), wr_ (wr_ (wr_ (wr_ (cpl τ 34 50 8) 1 2 (rd_ τ 3 2)) 1 3 (rd_ τ 3 3)) 1 4 (rd_ τ 3 4)) 1 5 (rd_ τ 3 5)) := by
    intro τ
    have := lg2 (F := C1_become_1_3_53) (z := fun _ _ => none) 8 (fun i => cpl τ 34 50 i) (fun i => nI i) (some ((), wr_ (wr_ (wr_ (wr_ (cpl τ 34 50 8) 1 2 (rd_ τ 3 2)) 1 3 (rd_ τ 3 3)) 1 4 (rd_ τ 3 4)) 1 5 (rd_ τ 3 5))) ?_ ?_ (FU_gt (by omega))
    · simp only [cpl_0] at this
      exact this
    · intro K i hi
      unfold C1_become_1_3_53
      simp (disch := omega) only [lit, nI_leI, if_neg, in_nI, gd_tt, nI_clamp, lt_eq, nI_add, lf_tt, become_at, bi_some]
      have e := cpl_s (σ := τ) (d := 34) (s := 50) (i := i) (by omega) (by omega)
      rw [show 34 + (i) = 34 + i by omega, show 34 + (16 + i) = 50 + i by omega, e]
    · intro K
      unfold C1_become_1_3_53
      simp (disch := omega) only [lit, Int32.le_refl, if_true, lt_eq, rd_k]
      have e : ∀ j, rd_ (cpl τ 34 50 8) 3 j = rd_ τ 3 j := fun j => by
        simp only [rd_row, cpl]
        rw [if_neg (by omega)]
      simp only [e]
  have h2 : ∀ τ : Sg, lp_ C1_become_1_3_27 (fun _ _ => none) FU τ (nI 0) = lp_ C1_become_1_3_53 (fun _ _ => none) FU (st_ τ 7 (fl (τ.1 9) (τ.1 7) 8)) (nI 0) := by
    intro τ
    have := lg2 (F := C1_become_1_3_27) (z := fun _ _ => none) 8 (fun i => st_ τ 7 (fl (τ.1 9) (τ.1 7) i)) (fun i => nI i) (lp_ C1_become_1_3_53 (fun _ _ => none) FU (st_ τ 7 (fl (τ.1 9) (τ.1 7) 8)) (nI 0)) ?_ ?_ (FU_gt (by omega))
    · simp only [fl_0, st_self] at this
      exact this
    · intro K i hi
      unfold C1_become_1_3_27
      simp (disch := omega) only [lit, nI_leI, if_neg, in_nI, gd_tt, nI_clamp, lt_eq, nI_add, wr_st, rd_stk]
      rw [rd_row, fl_s]
    · intro K
      unfold C1_become_1_3_27
      simp only [lit, Int32.le_refl, if_true]
  unfold C1_become_1_3_0
  have := lg2 (F := C1_become_1_3_2) (z := fun _ _ => none) 4 (fun i => st_ σ 4 (fl (σ.1 6) (σ.1 4) i)) (fun i => nI i) (some ((), bec_1_3 σ)) ?_ ?_ (FU_gt (by omega))
  · simp only [fl_0, st_self] at this
    exact this
  · intro K i hi
    unfold C1_become_1_3_2
    simp (disch := omega) only [lit, nI_leI, if_neg, in_nI, gd_tt, nI_clamp, lt_eq, nI_add, wr_st, rd_stk]
    rw [rd_row, fl_s]
  · intro K
    unfold C1_become_1_3_2
    simp only [lit, Int32.le_refl, if_true, h2, h3]
    simp (disch := omega) only [bec_1_3, rd_stk, st_k]
