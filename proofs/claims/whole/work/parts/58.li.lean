theorem li1 {A1 β : Type} {F : (A1 → Option β) → A1 → Option β} {z : A1 → Option β} (N : Nat) (I : Nat → A1 → Prop) (Q : β → Prop) (x1 : A1) (h0 : I 0 x1) (hs : ∀ (K : A1 → Option β) (i : Nat) (x1 : A1), i < N → I i x1 → (∃ (y1 : A1), I (i + 1) y1 ∧ F K x1 = K y1) ∨ ∃ b, Q b ∧ F K x1 = some b) (he : ∀ (K : A1 → Option β) (x1 : A1), I N x1 → ∃ b, Q b ∧ F K x1 = some b) {n : Nat} (hn : N < n) : ∃ b, Q b ∧ lp_ F z n x1 = some b := by
  have key : ∀ m i (x1 : A1), i + m = N → I i x1 → ∀ n, m < n → ∃ b, Q b ∧ lp_ F z n x1 = some b := by
    intro m
    induction m with
    | zero =>
      intro i x1 hi hI n hn
      obtain ⟨q, rfl⟩ : ∃ q, n = q + 1 := ⟨n - 1, by omega⟩
      have e : i = N := by omega
      subst e
      exact he _ x1 hI
    | succ m ih =>
      intro i x1 hi hI n hn
      obtain ⟨q, rfl⟩ : ∃ q, n = q + 1 := ⟨n - 1, by omega⟩
      rcases hs (lp_ F z q) i x1 (by omega) hI with ⟨y1, h1, h2⟩ | ⟨b, h1, h2⟩
      · obtain ⟨b, h3, h4⟩ := ih (i + 1) y1 (by omega) h1 q (by omega)
        exact ⟨b, h3, h2.trans h4⟩
      · exact ⟨b, h1, h2⟩
  exact key N 0 x1 (by omega) h0 n hn
theorem li2 {A1 A2 β : Type} {F : (A1 → A2 → Option β) → A1 → A2 → Option β} {z : A1 → A2 → Option β} (N : Nat) (I : Nat → A1 → A2 → Prop) (Q : β → Prop) (x1 : A1) (x2 : A2) (h0 : I 0 x1 x2) (hs : ∀ (K : A1 → A2 → Option β) (i : Nat) (x1 : A1) (x2 : A2), i < N → I i x1 x2 → (∃ (y1 : A1) (y2 : A2), I (i + 1) y1 y2 ∧ F K x1 x2 = K y1 y2) ∨ ∃ b, Q b ∧ F K x1 x2 = some b) (he : ∀ (K : A1 → A2 → Option β) (x1 : A1) (x2 : A2), I N x1 x2 → ∃ b, Q b ∧ F K x1 x2 = some b) {n : Nat} (hn : N < n) : ∃ b, Q b ∧ lp_ F z n x1 x2 = some b := by
  have key : ∀ m i (x1 : A1) (x2 : A2), i + m = N → I i x1 x2 → ∀ n, m < n → ∃ b, Q b ∧ lp_ F z n x1 x2 = some b := by
    intro m
    induction m with
    | zero =>
      intro i x1 x2 hi hI n hn
      obtain ⟨q, rfl⟩ : ∃ q, n = q + 1 := ⟨n - 1, by omega⟩
      have e : i = N := by omega
      subst e
      exact he _ x1 x2 hI
    | succ m ih =>
      intro i x1 x2 hi hI n hn
      obtain ⟨q, rfl⟩ : ∃ q, n = q + 1 := ⟨n - 1, by omega⟩
      rcases hs (lp_ F z q) i x1 x2 (by omega) hI with ⟨y1, y2, h1, h2⟩ | ⟨b, h1, h2⟩
      · obtain ⟨b, h3, h4⟩ := ih (i + 1) y1 y2 (by omega) h1 q (by omega)
        exact ⟨b, h3, h2.trans h4⟩
      · exact ⟨b, h1, h2⟩
  exact key N 0 x1 x2 (by omega) h0 n hn
theorem li3 {A1 A2 A3 β : Type} {F : (A1 → A2 → A3 → Option β) → A1 → A2 → A3 → Option β} {z : A1 → A2 → A3 → Option β} (N : Nat) (I : Nat → A1 → A2 → A3 → Prop) (Q : β → Prop) (x1 : A1) (x2 : A2) (x3 : A3) (h0 : I 0 x1 x2 x3) (hs : ∀ (K : A1 → A2 → A3 → Option β) (i : Nat) (x1 : A1) (x2 : A2) (x3 : A3), i < N → I i x1 x2 x3 → (∃ (y1 : A1) (y2 : A2) (y3 : A3), I (i + 1) y1 y2 y3 ∧ F K x1 x2 x3 = K y1 y2 y3) ∨ ∃ b, Q b ∧ F K x1 x2 x3 = some b) (he : ∀ (K : A1 → A2 → A3 → Option β) (x1 : A1) (x2 : A2) (x3 : A3), I N x1 x2 x3 → ∃ b, Q b ∧ F K x1 x2 x3 = some b) {n : Nat} (hn : N < n) : ∃ b, Q b ∧ lp_ F z n x1 x2 x3 = some b := by
  have key : ∀ m i (x1 : A1) (x2 : A2) (x3 : A3), i + m = N → I i x1 x2 x3 → ∀ n, m < n → ∃ b, Q b ∧ lp_ F z n x1 x2 x3 = some b := by
    intro m
    induction m with
    | zero =>
      intro i x1 x2 x3 hi hI n hn
      obtain ⟨q, rfl⟩ : ∃ q, n = q + 1 := ⟨n - 1, by omega⟩
      have e : i = N := by omega
      subst e
      exact he _ x1 x2 x3 hI
    | succ m ih =>
      intro i x1 x2 x3 hi hI n hn
      obtain ⟨q, rfl⟩ : ∃ q, n = q + 1 := ⟨n - 1, by omega⟩
      rcases hs (lp_ F z q) i x1 x2 x3 (by omega) hI with ⟨y1, y2, y3, h1, h2⟩ | ⟨b, h1, h2⟩
      · obtain ⟨b, h3, h4⟩ := ih (i + 1) y1 y2 y3 (by omega) h1 q (by omega)
        exact ⟨b, h3, h2.trans h4⟩
      · exact ⟨b, h1, h2⟩
  exact key N 0 x1 x2 x3 (by omega) h0 n hn
theorem li4 {A1 A2 A3 A4 β : Type} {F : (A1 → A2 → A3 → A4 → Option β) → A1 → A2 → A3 → A4 → Option β} {z : A1 → A2 → A3 → A4 → Option β} (N : Nat) (I : Nat → A1 → A2 → A3 → A4 → Prop) (Q : β → Prop) (x1 : A1) (x2 : A2) (x3 : A3) (x4 : A4) (h0 : I 0 x1 x2 x3 x4) (hs : ∀ (K : A1 → A2 → A3 → A4 → Option β) (i : Nat) (x1 : A1) (x2 : A2) (x3 : A3) (x4 : A4), i < N → I i x1 x2 x3 x4 → (∃ (y1 : A1) (y2 : A2) (y3 : A3) (y4 : A4), I (i + 1) y1 y2 y3 y4 ∧ F K x1 x2 x3 x4 = K y1 y2 y3 y4) ∨ ∃ b, Q b ∧ F K x1 x2 x3 x4 = some b) (he : ∀ (K : A1 → A2 → A3 → A4 → Option β) (x1 : A1) (x2 : A2) (x3 : A3) (x4 : A4), I N x1 x2 x3 x4 → ∃ b, Q b ∧ F K x1 x2 x3 x4 = some b) {n : Nat} (hn : N < n) : ∃ b, Q b ∧ lp_ F z n x1 x2 x3 x4 = some b := by
  have key : ∀ m i (x1 : A1) (x2 : A2) (x3 : A3) (x4 : A4), i + m = N → I i x1 x2 x3 x4 → ∀ n, m < n → ∃ b, Q b ∧ lp_ F z n x1 x2 x3 x4 = some b := by
    intro m
    induction m with
    | zero =>
      intro i x1 x2 x3 x4 hi hI n hn
      obtain ⟨q, rfl⟩ : ∃ q, n = q + 1 := ⟨n - 1, by omega⟩
      have e : i = N := by omega
      subst e
      exact he _ x1 x2 x3 x4 hI
    | succ m ih =>
      intro i x1 x2 x3 x4 hi hI n hn
      obtain ⟨q, rfl⟩ : ∃ q, n = q + 1 := ⟨n - 1, by omega⟩
      rcases hs (lp_ F z q) i x1 x2 x3 x4 (by omega) hI with ⟨y1, y2, y3, y4, h1, h2⟩ | ⟨b, h1, h2⟩
      · obtain ⟨b, h3, h4⟩ := ih (i + 1) y1 y2 y3 y4 (by omega) h1 q (by omega)
        exact ⟨b, h3, h2.trans h4⟩
      · exact ⟨b, h1, h2⟩
  exact key N 0 x1 x2 x3 x4 (by omega) h0 n hn
theorem li5 {A1 A2 A3 A4 A5 β : Type} {F : (A1 → A2 → A3 → A4 → A5 → Option β) → A1 → A2 → A3 → A4 → A5 → Option β} {z : A1 → A2 → A3 → A4 → A5 → Option β} (N : Nat) (I : Nat → A1 → A2 → A3 → A4 → A5 → Prop) (Q : β → Prop) (x1 : A1) (x2 : A2) (x3 : A3) (x4 : A4) (x5 : A5) (h0 : I 0 x1 x2 x3 x4 x5) (hs : ∀ (K : A1 → A2 → A3 → A4 → A5 → Option β) (i : Nat) (x1 : A1) (x2 : A2) (x3 : A3) (x4 : A4) (x5 : A5), i < N → I i x1 x2 x3 x4 x5 → (∃ (y1 : A1) (y2 : A2) (y3 : A3) (y4 : A4) (y5 : A5), I (i + 1) y1 y2 y3 y4 y5 ∧ F K x1 x2 x3 x4 x5 = K y1 y2 y3 y4 y5) ∨ ∃ b, Q b ∧ F K x1 x2 x3 x4 x5 = some b) (he : ∀ (K : A1 → A2 → A3 → A4 → A5 → Option β) (x1 : A1) (x2 : A2) (x3 : A3) (x4 : A4) (x5 : A5), I N x1 x2 x3 x4 x5 → ∃ b, Q b ∧ F K x1 x2 x3 x4 x5 = some b) {n : Nat} (hn : N < n) : ∃ b, Q b ∧ lp_ F z n x1 x2 x3 x4 x5 = some b := by
  have key : ∀ m i (x1 : A1) (x2 : A2) (x3 : A3) (x4 : A4) (x5 : A5), i + m = N → I i x1 x2 x3 x4 x5 → ∀ n, m < n → ∃ b, Q b ∧ lp_ F z n x1 x2 x3 x4 x5 = some b := by
    intro m
    induction m with
    | zero =>
      intro i x1 x2 x3 x4 x5 hi hI n hn
      obtain ⟨q, rfl⟩ : ∃ q, n = q + 1 := ⟨n - 1, by omega⟩
      have e : i = N := by omega
      subst e
      exact he _ x1 x2 x3 x4 x5 hI
    | succ m ih =>
      intro i x1 x2 x3 x4 x5 hi hI n hn
      obtain ⟨q, rfl⟩ : ∃ q, n = q + 1 := ⟨n - 1, by omega⟩
      rcases hs (lp_ F z q) i x1 x2 x3 x4 x5 (by omega) hI with ⟨y1, y2, y3, y4, y5, h1, h2⟩ | ⟨b, h1, h2⟩
      · obtain ⟨b, h3, h4⟩ := ih (i + 1) y1 y2 y3 y4 y5 (by omega) h1 q (by omega)
        exact ⟨b, h3, h2.trans h4⟩
      · exact ⟨b, h1, h2⟩
  exact key N 0 x1 x2 x3 x4 x5 (by omega) h0 n hn
theorem li6 {A1 A2 A3 A4 A5 A6 β : Type} {F : (A1 → A2 → A3 → A4 → A5 → A6 → Option β) → A1 → A2 → A3 → A4 → A5 → A6 → Option β} {z : A1 → A2 → A3 → A4 → A5 → A6 → Option β} (N : Nat) (I : Nat → A1 → A2 → A3 → A4 → A5 → A6 → Prop) (Q : β → Prop) (x1 : A1) (x2 : A2) (x3 : A3) (x4 : A4) (x5 : A5) (x6 : A6) (h0 : I 0 x1 x2 x3 x4 x5 x6) (hs : ∀ (K : A1 → A2 → A3 → A4 → A5 → A6 → Option β) (i : Nat) (x1 : A1) (x2 : A2) (x3 : A3) (x4 : A4) (x5 : A5) (x6 : A6), i < N → I i x1 x2 x3 x4 x5 x6 → (∃ (y1 : A1) (y2 : A2) (y3 : A3) (y4 : A4) (y5 : A5) (y6 : A6), I (i + 1) y1 y2 y3 y4 y5 y6 ∧ F K x1 x2 x3 x4 x5 x6 = K y1 y2 y3 y4 y5 y6) ∨ ∃ b, Q b ∧ F K x1 x2 x3 x4 x5 x6 = some b) (he : ∀ (K : A1 → A2 → A3 → A4 → A5 → A6 → Option β) (x1 : A1) (x2 : A2) (x3 : A3) (x4 : A4) (x5 : A5) (x6 : A6), I N x1 x2 x3 x4 x5 x6 → ∃ b, Q b ∧ F K x1 x2 x3 x4 x5 x6 = some b) {n : Nat} (hn : N < n) : ∃ b, Q b ∧ lp_ F z n x1 x2 x3 x4 x5 x6 = some b := by
  have key : ∀ m i (x1 : A1) (x2 : A2) (x3 : A3) (x4 : A4) (x5 : A5) (x6 : A6), i + m = N → I i x1 x2 x3 x4 x5 x6 → ∀ n, m < n → ∃ b, Q b ∧ lp_ F z n x1 x2 x3 x4 x5 x6 = some b := by
    intro m
    induction m with
    | zero =>
      intro i x1 x2 x3 x4 x5 x6 hi hI n hn
      obtain ⟨q, rfl⟩ : ∃ q, n = q + 1 := ⟨n - 1, by omega⟩
      have e : i = N := by omega
      subst e
      exact he _ x1 x2 x3 x4 x5 x6 hI
    | succ m ih =>
      intro i x1 x2 x3 x4 x5 x6 hi hI n hn
      obtain ⟨q, rfl⟩ : ∃ q, n = q + 1 := ⟨n - 1, by omega⟩
      rcases hs (lp_ F z q) i x1 x2 x3 x4 x5 x6 (by omega) hI with ⟨y1, y2, y3, y4, y5, y6, h1, h2⟩ | ⟨b, h1, h2⟩
      · obtain ⟨b, h3, h4⟩ := ih (i + 1) y1 y2 y3 y4 y5 y6 (by omega) h1 q (by omega)
        exact ⟨b, h3, h2.trans h4⟩
      · exact ⟨b, h1, h2⟩
  exact key N 0 x1 x2 x3 x4 x5 x6 (by omega) h0 n hn
theorem li7 {A1 A2 A3 A4 A5 A6 A7 β : Type} {F : (A1 → A2 → A3 → A4 → A5 → A6 → A7 → Option β) → A1 → A2 → A3 → A4 → A5 → A6 → A7 → Option β} {z : A1 → A2 → A3 → A4 → A5 → A6 → A7 → Option β} (N : Nat) (I : Nat → A1 → A2 → A3 → A4 → A5 → A6 → A7 → Prop) (Q : β → Prop) (x1 : A1) (x2 : A2) (x3 : A3) (x4 : A4) (x5 : A5) (x6 : A6) (x7 : A7) (h0 : I 0 x1 x2 x3 x4 x5 x6 x7) (hs : ∀ (K : A1 → A2 → A3 → A4 → A5 → A6 → A7 → Option β) (i : Nat) (x1 : A1) (x2 : A2) (x3 : A3) (x4 : A4) (x5 : A5) (x6 : A6) (x7 : A7), i < N → I i x1 x2 x3 x4 x5 x6 x7 → (∃ (y1 : A1) (y2 : A2) (y3 : A3) (y4 : A4) (y5 : A5) (y6 : A6) (y7 : A7), I (i + 1) y1 y2 y3 y4 y5 y6 y7 ∧ F K x1 x2 x3 x4 x5 x6 x7 = K y1 y2 y3 y4 y5 y6 y7) ∨ ∃ b, Q b ∧ F K x1 x2 x3 x4 x5 x6 x7 = some b) (he : ∀ (K : A1 → A2 → A3 → A4 → A5 → A6 → A7 → Option β) (x1 : A1) (x2 : A2) (x3 : A3) (x4 : A4) (x5 : A5) (x6 : A6) (x7 : A7), I N x1 x2 x3 x4 x5 x6 x7 → ∃ b, Q b ∧ F K x1 x2 x3 x4 x5 x6 x7 = some b) {n : Nat} (hn : N < n) : ∃ b, Q b ∧ lp_ F z n x1 x2 x3 x4 x5 x6 x7 = some b := by
  have key : ∀ m i (x1 : A1) (x2 : A2) (x3 : A3) (x4 : A4) (x5 : A5) (x6 : A6) (x7 : A7), i + m = N → I i x1 x2 x3 x4 x5 x6 x7 → ∀ n, m < n → ∃ b, Q b ∧ lp_ F z n x1 x2 x3 x4 x5 x6 x7 = some b := by
    intro m
    induction m with
    | zero =>
      intro i x1 x2 x3 x4 x5 x6 x7 hi hI n hn
      obtain ⟨q, rfl⟩ : ∃ q, n = q + 1 := ⟨n - 1, by omega⟩
      have e : i = N := by omega
      subst e
      exact he _ x1 x2 x3 x4 x5 x6 x7 hI
    | succ m ih =>
      intro i x1 x2 x3 x4 x5 x6 x7 hi hI n hn
      obtain ⟨q, rfl⟩ : ∃ q, n = q + 1 := ⟨n - 1, by omega⟩
      rcases hs (lp_ F z q) i x1 x2 x3 x4 x5 x6 x7 (by omega) hI with ⟨y1, y2, y3, y4, y5, y6, y7, h1, h2⟩ | ⟨b, h1, h2⟩
      · obtain ⟨b, h3, h4⟩ := ih (i + 1) y1 y2 y3 y4 y5 y6 y7 (by omega) h1 q (by omega)
        exact ⟨b, h3, h2.trans h4⟩
      · exact ⟨b, h1, h2⟩
  exact key N 0 x1 x2 x3 x4 x5 x6 x7 (by omega) h0 n hn
theorem li8 {A1 A2 A3 A4 A5 A6 A7 A8 β : Type} {F : (A1 → A2 → A3 → A4 → A5 → A6 → A7 → A8 → Option β) → A1 → A2 → A3 → A4 → A5 → A6 → A7 → A8 → Option β} {z : A1 → A2 → A3 → A4 → A5 → A6 → A7 → A8 → Option β} (N : Nat) (I : Nat → A1 → A2 → A3 → A4 → A5 → A6 → A7 → A8 → Prop) (Q : β → Prop) (x1 : A1) (x2 : A2) (x3 : A3) (x4 : A4) (x5 : A5) (x6 : A6) (x7 : A7) (x8 : A8) (h0 : I 0 x1 x2 x3 x4 x5 x6 x7 x8) (hs : ∀ (K : A1 → A2 → A3 → A4 → A5 → A6 → A7 → A8 → Option β) (i : Nat) (x1 : A1) (x2 : A2) (x3 : A3) (x4 : A4) (x5 : A5) (x6 : A6) (x7 : A7) (x8 : A8), i < N → I i x1 x2 x3 x4 x5 x6 x7 x8 → (∃ (y1 : A1) (y2 : A2) (y3 : A3) (y4 : A4) (y5 : A5) (y6 : A6) (y7 : A7) (y8 : A8), I (i + 1) y1 y2 y3 y4 y5 y6 y7 y8 ∧ F K x1 x2 x3 x4 x5 x6 x7 x8 = K y1 y2 y3 y4 y5 y6 y7 y8) ∨ ∃ b, Q b ∧ F K x1 x2 x3 x4 x5 x6 x7 x8 = some b) (he : ∀ (K : A1 → A2 → A3 → A4 → A5 → A6 → A7 → A8 → Option β) (x1 : A1) (x2 : A2) (x3 : A3) (x4 : A4) (x5 : A5) (x6 : A6) (x7 : A7) (x8 : A8), I N x1 x2 x3 x4 x5 x6 x7 x8 → ∃ b, Q b ∧ F K x1 x2 x3 x4 x5 x6 x7 x8 = some b) {n : Nat} (hn : N < n) : ∃ b, Q b ∧ lp_ F z n x1 x2 x3 x4 x5 x6 x7 x8 = some b := by
  have key : ∀ m i (x1 : A1) (x2 : A2) (x3 : A3) (x4 : A4) (x5 : A5) (x6 : A6) (x7 : A7) (x8 : A8), i + m = N → I i x1 x2 x3 x4 x5 x6 x7 x8 → ∀ n, m < n → ∃ b, Q b ∧ lp_ F z n x1 x2 x3 x4 x5 x6 x7 x8 = some b := by
    intro m
    induction m with
    | zero =>
      intro i x1 x2 x3 x4 x5 x6 x7 x8 hi hI n hn
      obtain ⟨q, rfl⟩ : ∃ q, n = q + 1 := ⟨n - 1, by omega⟩
      have e : i = N := by omega
      subst e
      exact he _ x1 x2 x3 x4 x5 x6 x7 x8 hI
    | succ m ih =>
      intro i x1 x2 x3 x4 x5 x6 x7 x8 hi hI n hn
      obtain ⟨q, rfl⟩ : ∃ q, n = q + 1 := ⟨n - 1, by omega⟩
      rcases hs (lp_ F z q) i x1 x2 x3 x4 x5 x6 x7 x8 (by omega) hI with ⟨y1, y2, y3, y4, y5, y6, y7, y8, h1, h2⟩ | ⟨b, h1, h2⟩
      · obtain ⟨b, h3, h4⟩ := ih (i + 1) y1 y2 y3 y4 y5 y6 y7 y8 (by omega) h1 q (by omega)
        exact ⟨b, h3, h2.trans h4⟩
      · exact ⟨b, h1, h2⟩
  exact key N 0 x1 x2 x3 x4 x5 x6 x7 x8 (by omega) h0 n hn
theorem li9 {A1 A2 A3 A4 A5 A6 A7 A8 A9 β : Type} {F : (A1 → A2 → A3 → A4 → A5 → A6 → A7 → A8 → A9 → Option β) → A1 → A2 → A3 → A4 → A5 → A6 → A7 → A8 → A9 → Option β} {z : A1 → A2 → A3 → A4 → A5 → A6 → A7 → A8 → A9 → Option β} (N : Nat) (I : Nat → A1 → A2 → A3 → A4 → A5 → A6 → A7 → A8 → A9 → Prop) (Q : β → Prop) (x1 : A1) (x2 : A2) (x3 : A3) (x4 : A4) (x5 : A5) (x6 : A6) (x7 : A7) (x8 : A8) (x9 : A9) (h0 : I 0 x1 x2 x3 x4 x5 x6 x7 x8 x9) (hs : ∀ (K : A1 → A2 → A3 → A4 → A5 → A6 → A7 → A8 → A9 → Option β) (i : Nat) (x1 : A1) (x2 : A2) (x3 : A3) (x4 : A4) (x5 : A5) (x6 : A6) (x7 : A7) (x8 : A8) (x9 : A9), i < N → I i x1 x2 x3 x4 x5 x6 x7 x8 x9 → (∃ (y1 : A1) (y2 : A2) (y3 : A3) (y4 : A4) (y5 : A5) (y6 : A6) (y7 : A7) (y8 : A8) (y9 : A9), I (i + 1) y1 y2 y3 y4 y5 y6 y7 y8 y9 ∧ F K x1 x2 x3 x4 x5 x6 x7 x8 x9 = K y1 y2 y3 y4 y5 y6 y7 y8 y9) ∨ ∃ b, Q b ∧ F K x1 x2 x3 x4 x5 x6 x7 x8 x9 = some b) (he : ∀ (K : A1 → A2 → A3 → A4 → A5 → A6 → A7 → A8 → A9 → Option β) (x1 : A1) (x2 : A2) (x3 : A3) (x4 : A4) (x5 : A5) (x6 : A6) (x7 : A7) (x8 : A8) (x9 : A9), I N x1 x2 x3 x4 x5 x6 x7 x8 x9 → ∃ b, Q b ∧ F K x1 x2 x3 x4 x5 x6 x7 x8 x9 = some b) {n : Nat} (hn : N < n) : ∃ b, Q b ∧ lp_ F z n x1 x2 x3 x4 x5 x6 x7 x8 x9 = some b := by
  have key : ∀ m i (x1 : A1) (x2 : A2) (x3 : A3) (x4 : A4) (x5 : A5) (x6 : A6) (x7 : A7) (x8 : A8) (x9 : A9), i + m = N → I i x1 x2 x3 x4 x5 x6 x7 x8 x9 → ∀ n, m < n → ∃ b, Q b ∧ lp_ F z n x1 x2 x3 x4 x5 x6 x7 x8 x9 = some b := by
    intro m
    induction m with
    | zero =>
      intro i x1 x2 x3 x4 x5 x6 x7 x8 x9 hi hI n hn
      obtain ⟨q, rfl⟩ : ∃ q, n = q + 1 := ⟨n - 1, by omega⟩
      have e : i = N := by omega
      subst e
      exact he _ x1 x2 x3 x4 x5 x6 x7 x8 x9 hI
    | succ m ih =>
      intro i x1 x2 x3 x4 x5 x6 x7 x8 x9 hi hI n hn
      obtain ⟨q, rfl⟩ : ∃ q, n = q + 1 := ⟨n - 1, by omega⟩
      rcases hs (lp_ F z q) i x1 x2 x3 x4 x5 x6 x7 x8 x9 (by omega) hI with ⟨y1, y2, y3, y4, y5, y6, y7, y8, y9, h1, h2⟩ | ⟨b, h1, h2⟩
      · obtain ⟨b, h3, h4⟩ := ih (i + 1) y1 y2 y3 y4 y5 y6 y7 y8 y9 (by omega) h1 q (by omega)
        exact ⟨b, h3, h2.trans h4⟩
      · exact ⟨b, h1, h2⟩
  exact key N 0 x1 x2 x3 x4 x5 x6 x7 x8 x9 (by omega) h0 n hn
theorem li10 {A1 A2 A3 A4 A5 A6 A7 A8 A9 A10 β : Type} {F : (A1 → A2 → A3 → A4 → A5 → A6 → A7 → A8 → A9 → A10 → Option β) → A1 → A2 → A3 → A4 → A5 → A6 → A7 → A8 → A9 → A10 → Option β} {z : A1 → A2 → A3 → A4 → A5 → A6 → A7 → A8 → A9 → A10 → Option β} (N : Nat) (I : Nat → A1 → A2 → A3 → A4 → A5 → A6 → A7 → A8 → A9 → A10 → Prop) (Q : β → Prop) (x1 : A1) (x2 : A2) (x3 : A3) (x4 : A4) (x5 : A5) (x6 : A6) (x7 : A7) (x8 : A8) (x9 : A9) (x10 : A10) (h0 : I 0 x1 x2 x3 x4 x5 x6 x7 x8 x9 x10) (hs : ∀ (K : A1 → A2 → A3 → A4 → A5 → A6 → A7 → A8 → A9 → A10 → Option β) (i : Nat) (x1 : A1) (x2 : A2) (x3 : A3) (x4 : A4) (x5 : A5) (x6 : A6) (x7 : A7) (x8 : A8) (x9 : A9) (x10 : A10), i < N → I i x1 x2 x3 x4 x5 x6 x7 x8 x9 x10 → (∃ (y1 : A1) (y2 : A2) (y3 : A3) (y4 : A4) (y5 : A5) (y6 : A6) (y7 : A7) (y8 : A8) (y9 : A9) (y10 : A10), I (i + 1) y1 y2 y3 y4 y5 y6 y7 y8 y9 y10 ∧ F K x1 x2 x3 x4 x5 x6 x7 x8 x9 x10 = K y1 y2 y3 y4 y5 y6 y7 y8 y9 y10) ∨ ∃ b, Q b ∧ F K x1 x2 x3 x4 x5 x6 x7 x8 x9 x10 = some b) (he : ∀ (K : A1 → A2 → A3 → A4 → A5 → A6 → A7 → A8 → A9 → A10 → Option β) (x1 : A1) (x2 : A2) (x3 : A3) (x4 : A4) (x5 : A5) (x6 : A6) (x7 : A7) (x8 : A8) (x9 : A9) (x10 : A10), I N x1 x2 x3 x4 x5 x6 x7 x8 x9 x10 → ∃ b, Q b ∧ F K x1 x2 x3 x4 x5 x6 x7 x8 x9 x10 = some b) {n : Nat} (hn : N < n) : ∃ b, Q b ∧ lp_ F z n x1 x2 x3 x4 x5 x6 x7 x8 x9 x10 = some b := by
  have key : ∀ m i (x1 : A1) (x2 : A2) (x3 : A3) (x4 : A4) (x5 : A5) (x6 : A6) (x7 : A7) (x8 : A8) (x9 : A9) (x10 : A10), i + m = N → I i x1 x2 x3 x4 x5 x6 x7 x8 x9 x10 → ∀ n, m < n → ∃ b, Q b ∧ lp_ F z n x1 x2 x3 x4 x5 x6 x7 x8 x9 x10 = some b := by
    intro m
    induction m with
    | zero =>
      intro i x1 x2 x3 x4 x5 x6 x7 x8 x9 x10 hi hI n hn
      obtain ⟨q, rfl⟩ : ∃ q, n = q + 1 := ⟨n - 1, by omega⟩
      have e : i = N := by omega
      subst e
      exact he _ x1 x2 x3 x4 x5 x6 x7 x8 x9 x10 hI
    | succ m ih =>
      intro i x1 x2 x3 x4 x5 x6 x7 x8 x9 x10 hi hI n hn
      obtain ⟨q, rfl⟩ : ∃ q, n = q + 1 := ⟨n - 1, by omega⟩
      rcases hs (lp_ F z q) i x1 x2 x3 x4 x5 x6 x7 x8 x9 x10 (by omega) hI with ⟨y1, y2, y3, y4, y5, y6, y7, y8, y9, y10, h1, h2⟩ | ⟨b, h1, h2⟩
      · obtain ⟨b, h3, h4⟩ := ih (i + 1) y1 y2 y3 y4 y5 y6 y7 y8 y9 y10 (by omega) h1 q (by omega)
        exact ⟨b, h3, h2.trans h4⟩
      · exact ⟨b, h1, h2⟩
  exact key N 0 x1 x2 x3 x4 x5 x6 x7 x8 x9 x10 (by omega) h0 n hn
theorem lg8 {A1 A2 A3 A4 A5 A6 A7 A8 β : Type} {F : (A1 → A2 → A3 → A4 → A5 → A6 → A7 → A8 → Option β) → A1 → A2 → A3 → A4 → A5 → A6 → A7 → A8 → Option β} {z : A1 → A2 → A3 → A4 → A5 → A6 → A7 → A8 → Option β} (N : Nat) (p1 : Nat → A1) (p2 : Nat → A2) (p3 : Nat → A3) (p4 : Nat → A4) (p5 : Nat → A5) (p6 : Nat → A6) (p7 : Nat → A7) (p8 : Nat → A8) (r : Option β) (hs : ∀ (K : A1 → A2 → A3 → A4 → A5 → A6 → A7 → A8 → Option β) (i : Nat), i < N → F K (p1 i) (p2 i) (p3 i) (p4 i) (p5 i) (p6 i) (p7 i) (p8 i) = K (p1 (i + 1)) (p2 (i + 1)) (p3 (i + 1)) (p4 (i + 1)) (p5 (i + 1)) (p6 (i + 1)) (p7 (i + 1)) (p8 (i + 1))) (he : ∀ K : A1 → A2 → A3 → A4 → A5 → A6 → A7 → A8 → Option β, F K (p1 N) (p2 N) (p3 N) (p4 N) (p5 N) (p6 N) (p7 N) (p8 N) = r) {n : Nat} (hn : N < n) : lp_ F z n (p1 0) (p2 0) (p3 0) (p4 0) (p5 0) (p6 0) (p7 0) (p8 0) = r := by
  have key : ∀ m i, i + m = N → ∀ n, m < n → lp_ F z n (p1 i) (p2 i) (p3 i) (p4 i) (p5 i) (p6 i) (p7 i) (p8 i) = r := by
    intro m
    induction m with
    | zero =>
      intro i hi n hn
      obtain ⟨q, rfl⟩ : ∃ q, n = q + 1 := ⟨n - 1, by omega⟩
      have e : i = N := by omega
      subst e
      exact he _
    | succ m ih =>
      intro i hi n hn
      obtain ⟨q, rfl⟩ : ∃ q, n = q + 1 := ⟨n - 1, by omega⟩
      exact (hs _ i (by omega)).trans (ih (i + 1) (by omega) q (by omega))
  exact key N 0 (by omega) n hn
theorem lg9 {A1 A2 A3 A4 A5 A6 A7 A8 A9 β : Type} {F : (A1 → A2 → A3 → A4 → A5 → A6 → A7 → A8 → A9 → Option β) → A1 → A2 → A3 → A4 → A5 → A6 → A7 → A8 → A9 → Option β} {z : A1 → A2 → A3 → A4 → A5 → A6 → A7 → A8 → A9 → Option β} (N : Nat) (p1 : Nat → A1) (p2 : Nat → A2) (p3 : Nat → A3) (p4 : Nat → A4) (p5 : Nat → A5) (p6 : Nat → A6) (p7 : Nat → A7) (p8 : Nat → A8) (p9 : Nat → A9) (r : Option β) (hs : ∀ (K : A1 → A2 → A3 → A4 → A5 → A6 → A7 → A8 → A9 → Option β) (i : Nat), i < N → F K (p1 i) (p2 i) (p3 i) (p4 i) (p5 i) (p6 i) (p7 i) (p8 i) (p9 i) = K (p1 (i + 1)) (p2 (i + 1)) (p3 (i + 1)) (p4 (i + 1)) (p5 (i + 1)) (p6 (i + 1)) (p7 (i + 1)) (p8 (i + 1)) (p9 (i + 1))) (he : ∀ K : A1 → A2 → A3 → A4 → A5 → A6 → A7 → A8 → A9 → Option β, F K (p1 N) (p2 N) (p3 N) (p4 N) (p5 N) (p6 N) (p7 N) (p8 N) (p9 N) = r) {n : Nat} (hn : N < n) : lp_ F z n (p1 0) (p2 0) (p3 0) (p4 0) (p5 0) (p6 0) (p7 0) (p8 0) (p9 0) = r := by
  have key : ∀ m i, i + m = N → ∀ n, m < n → lp_ F z n (p1 i) (p2 i) (p3 i) (p4 i) (p5 i) (p6 i) (p7 i) (p8 i) (p9 i) = r := by
    intro m
    induction m with
    | zero =>
      intro i hi n hn
      obtain ⟨q, rfl⟩ : ∃ q, n = q + 1 := ⟨n - 1, by omega⟩
      have e : i = N := by omega
      subst e
      exact he _
    | succ m ih =>
      intro i hi n hn
      obtain ⟨q, rfl⟩ : ∃ q, n = q + 1 := ⟨n - 1, by omega⟩
      exact (hs _ i (by omega)).trans (ih (i + 1) (by omega) q (by omega))
  exact key N 0 (by omega) n hn
theorem lg10 {A1 A2 A3 A4 A5 A6 A7 A8 A9 A10 β : Type} {F : (A1 → A2 → A3 → A4 → A5 → A6 → A7 → A8 → A9 → A10 → Option β) → A1 → A2 → A3 → A4 → A5 → A6 → A7 → A8 → A9 → A10 → Option β} {z : A1 → A2 → A3 → A4 → A5 → A6 → A7 → A8 → A9 → A10 → Option β} (N : Nat) (p1 : Nat → A1) (p2 : Nat → A2) (p3 : Nat → A3) (p4 : Nat → A4) (p5 : Nat → A5) (p6 : Nat → A6) (p7 : Nat → A7) (p8 : Nat → A8) (p9 : Nat → A9) (p10 : Nat → A10) (r : Option β) (hs : ∀ (K : A1 → A2 → A3 → A4 → A5 → A6 → A7 → A8 → A9 → A10 → Option β) (i : Nat), i < N → F K (p1 i) (p2 i) (p3 i) (p4 i) (p5 i) (p6 i) (p7 i) (p8 i) (p9 i) (p10 i) = K (p1 (i + 1)) (p2 (i + 1)) (p3 (i + 1)) (p4 (i + 1)) (p5 (i + 1)) (p6 (i + 1)) (p7 (i + 1)) (p8 (i + 1)) (p9 (i + 1)) (p10 (i + 1))) (he : ∀ K : A1 → A2 → A3 → A4 → A5 → A6 → A7 → A8 → A9 → A10 → Option β, F K (p1 N) (p2 N) (p3 N) (p4 N) (p5 N) (p6 N) (p7 N) (p8 N) (p9 N) (p10 N) = r) {n : Nat} (hn : N < n) : lp_ F z n (p1 0) (p2 0) (p3 0) (p4 0) (p5 0) (p6 0) (p7 0) (p8 0) (p9 0) (p10 0) = r := by
  have key : ∀ m i, i + m = N → ∀ n, m < n → lp_ F z n (p1 i) (p2 i) (p3 i) (p4 i) (p5 i) (p6 i) (p7 i) (p8 i) (p9 i) (p10 i) = r := by
    intro m
    induction m with
    | zero =>
      intro i hi n hn
      obtain ⟨q, rfl⟩ : ∃ q, n = q + 1 := ⟨n - 1, by omega⟩
      have e : i = N := by omega
      subst e
      exact he _
    | succ m ih =>
      intro i hi n hn
      obtain ⟨q, rfl⟩ : ∃ q, n = q + 1 := ⟨n - 1, by omega⟩
      exact (hs _ i (by omega)).trans (ih (i + 1) (by omega) q (by omega))
  exact key N 0 (by omega) n hn
theorem lj1' {A1 β γ : Type} {F : (A1 → Option β) → A1 → Option β} {z : A1 → Option β} (N : Nat) (I : Nat → A1 → Prop) (Q : γ → Prop) (r : γ → Option β) (x1 : A1) (h0 : I 0 x1) (hs : ∀ (K : A1 → Option β) (i : Nat) (x1 : A1), i < N → I i x1 → (∃ (y1 : A1), I (i + 1) y1 ∧ F K x1 = K y1) ∨ ∃ b, Q b ∧ F K x1 = r b) (he : ∀ (K : A1 → Option β) (x1 : A1), I N x1 → ∃ b, Q b ∧ F K x1 = r b) {n : Nat} (hn : N < n) : ∃ b, Q b ∧ lp_ F z n x1 = r b := by
  have key : ∀ m i (x1 : A1), i + m = N → I i x1 → ∀ n, m < n → ∃ b, Q b ∧ lp_ F z n x1 = r b := by
    intro m
    induction m with
    | zero =>
      intro i x1 hi hI n hn
      obtain ⟨q, rfl⟩ : ∃ q, n = q + 1 := ⟨n - 1, by omega⟩
      have e : i = N := by omega
      subst e
      exact he _ x1 hI
    | succ m ih =>
      intro i x1 hi hI n hn
      obtain ⟨q, rfl⟩ : ∃ q, n = q + 1 := ⟨n - 1, by omega⟩
      rcases hs (lp_ F z q) i x1 (by omega) hI with ⟨y1, h1, h2⟩ | ⟨b, h1, h2⟩
      · obtain ⟨b, h3, h4⟩ := ih (i + 1) y1 (by omega) h1 q (by omega)
        exact ⟨b, h3, h2.trans h4⟩
      · exact ⟨b, h1, h2⟩
  exact key N 0 x1 (by omega) h0 n hn
theorem lj2 {A1 A2 β γ : Type} {F : (A1 → A2 → Option β) → A1 → A2 → Option β} {z : A1 → A2 → Option β} (N : Nat) (I : Nat → A1 → A2 → Prop) (Q : γ → Prop) (r : γ → Option β) (x1 : A1) (x2 : A2) (h0 : I 0 x1 x2) (hs : ∀ (K : A1 → A2 → Option β) (i : Nat) (x1 : A1) (x2 : A2), i < N → I i x1 x2 → (∃ (y1 : A1) (y2 : A2), I (i + 1) y1 y2 ∧ F K x1 x2 = K y1 y2) ∨ ∃ b, Q b ∧ F K x1 x2 = r b) (he : ∀ (K : A1 → A2 → Option β) (x1 : A1) (x2 : A2), I N x1 x2 → ∃ b, Q b ∧ F K x1 x2 = r b) {n : Nat} (hn : N < n) : ∃ b, Q b ∧ lp_ F z n x1 x2 = r b := by
  have key : ∀ m i (x1 : A1) (x2 : A2), i + m = N → I i x1 x2 → ∀ n, m < n → ∃ b, Q b ∧ lp_ F z n x1 x2 = r b := by
    intro m
    induction m with
    | zero =>
      intro i x1 x2 hi hI n hn
      obtain ⟨q, rfl⟩ : ∃ q, n = q + 1 := ⟨n - 1, by omega⟩
      have e : i = N := by omega
      subst e
      exact he _ x1 x2 hI
    | succ m ih =>
      intro i x1 x2 hi hI n hn
      obtain ⟨q, rfl⟩ : ∃ q, n = q + 1 := ⟨n - 1, by omega⟩
      rcases hs (lp_ F z q) i x1 x2 (by omega) hI with ⟨y1, y2, h1, h2⟩ | ⟨b, h1, h2⟩
      · obtain ⟨b, h3, h4⟩ := ih (i + 1) y1 y2 (by omega) h1 q (by omega)
        exact ⟨b, h3, h2.trans h4⟩
      · exact ⟨b, h1, h2⟩
  exact key N 0 x1 x2 (by omega) h0 n hn
theorem lj3 {A1 A2 A3 β γ : Type} {F : (A1 → A2 → A3 → Option β) → A1 → A2 → A3 → Option β} {z : A1 → A2 → A3 → Option β} (N : Nat) (I : Nat → A1 → A2 → A3 → Prop) (Q : γ → Prop) (r : γ → Option β) (x1 : A1) (x2 : A2) (x3 : A3) (h0 : I 0 x1 x2 x3) (hs : ∀ (K : A1 → A2 → A3 → Option β) (i : Nat) (x1 : A1) (x2 : A2) (x3 : A3), i < N → I i x1 x2 x3 → (∃ (y1 : A1) (y2 : A2) (y3 : A3), I (i + 1) y1 y2 y3 ∧ F K x1 x2 x3 = K y1 y2 y3) ∨ ∃ b, Q b ∧ F K x1 x2 x3 = r b) (he : ∀ (K : A1 → A2 → A3 → Option β) (x1 : A1) (x2 : A2) (x3 : A3), I N x1 x2 x3 → ∃ b, Q b ∧ F K x1 x2 x3 = r b) {n : Nat} (hn : N < n) : ∃ b, Q b ∧ lp_ F z n x1 x2 x3 = r b := by
  have key : ∀ m i (x1 : A1) (x2 : A2) (x3 : A3), i + m = N → I i x1 x2 x3 → ∀ n, m < n → ∃ b, Q b ∧ lp_ F z n x1 x2 x3 = r b := by
    intro m
    induction m with
    | zero =>
      intro i x1 x2 x3 hi hI n hn
      obtain ⟨q, rfl⟩ : ∃ q, n = q + 1 := ⟨n - 1, by omega⟩
      have e : i = N := by omega
      subst e
      exact he _ x1 x2 x3 hI
    | succ m ih =>
      intro i x1 x2 x3 hi hI n hn
      obtain ⟨q, rfl⟩ : ∃ q, n = q + 1 := ⟨n - 1, by omega⟩
      rcases hs (lp_ F z q) i x1 x2 x3 (by omega) hI with ⟨y1, y2, y3, h1, h2⟩ | ⟨b, h1, h2⟩
      · obtain ⟨b, h3, h4⟩ := ih (i + 1) y1 y2 y3 (by omega) h1 q (by omega)
        exact ⟨b, h3, h2.trans h4⟩
      · exact ⟨b, h1, h2⟩
  exact key N 0 x1 x2 x3 (by omega) h0 n hn
theorem lj4 {A1 A2 A3 A4 β γ : Type} {F : (A1 → A2 → A3 → A4 → Option β) → A1 → A2 → A3 → A4 → Option β} {z : A1 → A2 → A3 → A4 → Option β} (N : Nat) (I : Nat → A1 → A2 → A3 → A4 → Prop) (Q : γ → Prop) (r : γ → Option β) (x1 : A1) (x2 : A2) (x3 : A3) (x4 : A4) (h0 : I 0 x1 x2 x3 x4) (hs : ∀ (K : A1 → A2 → A3 → A4 → Option β) (i : Nat) (x1 : A1) (x2 : A2) (x3 : A3) (x4 : A4), i < N → I i x1 x2 x3 x4 → (∃ (y1 : A1) (y2 : A2) (y3 : A3) (y4 : A4), I (i + 1) y1 y2 y3 y4 ∧ F K x1 x2 x3 x4 = K y1 y2 y3 y4) ∨ ∃ b, Q b ∧ F K x1 x2 x3 x4 = r b) (he : ∀ (K : A1 → A2 → A3 → A4 → Option β) (x1 : A1) (x2 : A2) (x3 : A3) (x4 : A4), I N x1 x2 x3 x4 → ∃ b, Q b ∧ F K x1 x2 x3 x4 = r b) {n : Nat} (hn : N < n) : ∃ b, Q b ∧ lp_ F z n x1 x2 x3 x4 = r b := by
  have key : ∀ m i (x1 : A1) (x2 : A2) (x3 : A3) (x4 : A4), i + m = N → I i x1 x2 x3 x4 → ∀ n, m < n → ∃ b, Q b ∧ lp_ F z n x1 x2 x3 x4 = r b := by
    intro m
    induction m with
    | zero =>
      intro i x1 x2 x3 x4 hi hI n hn
      obtain ⟨q, rfl⟩ : ∃ q, n = q + 1 := ⟨n - 1, by omega⟩
      have e : i = N := by omega
      subst e
      exact he _ x1 x2 x3 x4 hI
    | succ m ih =>
      intro i x1 x2 x3 x4 hi hI n hn
      obtain ⟨q, rfl⟩ : ∃ q, n = q + 1 := ⟨n - 1, by omega⟩
      rcases hs (lp_ F z q) i x1 x2 x3 x4 (by omega) hI with ⟨y1, y2, y3, y4, h1, h2⟩ | ⟨b, h1, h2⟩
      · obtain ⟨b, h3, h4⟩ := ih (i + 1) y1 y2 y3 y4 (by omega) h1 q (by omega)
        exact ⟨b, h3, h2.trans h4⟩
      · exact ⟨b, h1, h2⟩
  exact key N 0 x1 x2 x3 x4 (by omega) h0 n hn
theorem lj5 {A1 A2 A3 A4 A5 β γ : Type} {F : (A1 → A2 → A3 → A4 → A5 → Option β) → A1 → A2 → A3 → A4 → A5 → Option β} {z : A1 → A2 → A3 → A4 → A5 → Option β} (N : Nat) (I : Nat → A1 → A2 → A3 → A4 → A5 → Prop) (Q : γ → Prop) (r : γ → Option β) (x1 : A1) (x2 : A2) (x3 : A3) (x4 : A4) (x5 : A5) (h0 : I 0 x1 x2 x3 x4 x5) (hs : ∀ (K : A1 → A2 → A3 → A4 → A5 → Option β) (i : Nat) (x1 : A1) (x2 : A2) (x3 : A3) (x4 : A4) (x5 : A5), i < N → I i x1 x2 x3 x4 x5 → (∃ (y1 : A1) (y2 : A2) (y3 : A3) (y4 : A4) (y5 : A5), I (i + 1) y1 y2 y3 y4 y5 ∧ F K x1 x2 x3 x4 x5 = K y1 y2 y3 y4 y5) ∨ ∃ b, Q b ∧ F K x1 x2 x3 x4 x5 = r b) (he : ∀ (K : A1 → A2 → A3 → A4 → A5 → Option β) (x1 : A1) (x2 : A2) (x3 : A3) (x4 : A4) (x5 : A5), I N x1 x2 x3 x4 x5 → ∃ b, Q b ∧ F K x1 x2 x3 x4 x5 = r b) {n : Nat} (hn : N < n) : ∃ b, Q b ∧ lp_ F z n x1 x2 x3 x4 x5 = r b := by
  have key : ∀ m i (x1 : A1) (x2 : A2) (x3 : A3) (x4 : A4) (x5 : A5), i + m = N → I i x1 x2 x3 x4 x5 → ∀ n, m < n → ∃ b, Q b ∧ lp_ F z n x1 x2 x3 x4 x5 = r b := by
    intro m
    induction m with
    | zero =>
      intro i x1 x2 x3 x4 x5 hi hI n hn
      obtain ⟨q, rfl⟩ : ∃ q, n = q + 1 := ⟨n - 1, by omega⟩
      have e : i = N := by omega
      subst e
      exact he _ x1 x2 x3 x4 x5 hI
    | succ m ih =>
      intro i x1 x2 x3 x4 x5 hi hI n hn
      obtain ⟨q, rfl⟩ : ∃ q, n = q + 1 := ⟨n - 1, by omega⟩
      rcases hs (lp_ F z q) i x1 x2 x3 x4 x5 (by omega) hI with ⟨y1, y2, y3, y4, y5, h1, h2⟩ | ⟨b, h1, h2⟩
      · obtain ⟨b, h3, h4⟩ := ih (i + 1) y1 y2 y3 y4 y5 (by omega) h1 q (by omega)
        exact ⟨b, h3, h2.trans h4⟩
      · exact ⟨b, h1, h2⟩
  exact key N 0 x1 x2 x3 x4 x5 (by omega) h0 n hn
theorem lj6 {A1 A2 A3 A4 A5 A6 β γ : Type} {F : (A1 → A2 → A3 → A4 → A5 → A6 → Option β) → A1 → A2 → A3 → A4 → A5 → A6 → Option β} {z : A1 → A2 → A3 → A4 → A5 → A6 → Option β} (N : Nat) (I : Nat → A1 → A2 → A3 → A4 → A5 → A6 → Prop) (Q : γ → Prop) (r : γ → Option β) (x1 : A1) (x2 : A2) (x3 : A3) (x4 : A4) (x5 : A5) (x6 : A6) (h0 : I 0 x1 x2 x3 x4 x5 x6) (hs : ∀ (K : A1 → A2 → A3 → A4 → A5 → A6 → Option β) (i : Nat) (x1 : A1) (x2 : A2) (x3 : A3) (x4 : A4) (x5 : A5) (x6 : A6), i < N → I i x1 x2 x3 x4 x5 x6 → (∃ (y1 : A1) (y2 : A2) (y3 : A3) (y4 : A4) (y5 : A5) (y6 : A6), I (i + 1) y1 y2 y3 y4 y5 y6 ∧ F K x1 x2 x3 x4 x5 x6 = K y1 y2 y3 y4 y5 y6) ∨ ∃ b, Q b ∧ F K x1 x2 x3 x4 x5 x6 = r b) (he : ∀ (K : A1 → A2 → A3 → A4 → A5 → A6 → Option β) (x1 : A1) (x2 : A2) (x3 : A3) (x4 : A4) (x5 : A5) (x6 : A6), I N x1 x2 x3 x4 x5 x6 → ∃ b, Q b ∧ F K x1 x2 x3 x4 x5 x6 = r b) {n : Nat} (hn : N < n) : ∃ b, Q b ∧ lp_ F z n x1 x2 x3 x4 x5 x6 = r b := by
  have key : ∀ m i (x1 : A1) (x2 : A2) (x3 : A3) (x4 : A4) (x5 : A5) (x6 : A6), i + m = N → I i x1 x2 x3 x4 x5 x6 → ∀ n, m < n → ∃ b, Q b ∧ lp_ F z n x1 x2 x3 x4 x5 x6 = r b := by
    intro m
    induction m with
    | zero =>
      intro i x1 x2 x3 x4 x5 x6 hi hI n hn
      obtain ⟨q, rfl⟩ : ∃ q, n = q + 1 := ⟨n - 1, by omega⟩
      have e : i = N := by omega
      subst e
      exact he _ x1 x2 x3 x4 x5 x6 hI
    | succ m ih =>
      intro i x1 x2 x3 x4 x5 x6 hi hI n hn
      obtain ⟨q, rfl⟩ : ∃ q, n = q + 1 := ⟨n - 1, by omega⟩
      rcases hs (lp_ F z q) i x1 x2 x3 x4 x5 x6 (by omega) hI with ⟨y1, y2, y3, y4, y5, y6, h1, h2⟩ | ⟨b, h1, h2⟩
      · obtain ⟨b, h3, h4⟩ := ih (i + 1) y1 y2 y3 y4 y5 y6 (by omega) h1 q (by omega)
        exact ⟨b, h3, h2.trans h4⟩
      · exact ⟨b, h1, h2⟩
  exact key N 0 x1 x2 x3 x4 x5 x6 (by omega) h0 n hn
theorem lj7 {A1 A2 A3 A4 A5 A6 A7 β γ : Type} {F : (A1 → A2 → A3 → A4 → A5 → A6 → A7 → Option β) → A1 → A2 → A3 → A4 → A5 → A6 → A7 → Option β} {z : A1 → A2 → A3 → A4 → A5 → A6 → A7 → Option β} (N : Nat) (I : Nat → A1 → A2 → A3 → A4 → A5 → A6 → A7 → Prop) (Q : γ → Prop) (r : γ → Option β) (x1 : A1) (x2 : A2) (x3 : A3) (x4 : A4) (x5 : A5) (x6 : A6) (x7 : A7) (h0 : I 0 x1 x2 x3 x4 x5 x6 x7) (hs : ∀ (K : A1 → A2 → A3 → A4 → A5 → A6 → A7 → Option β) (i : Nat) (x1 : A1) (x2 : A2) (x3 : A3) (x4 : A4) (x5 : A5) (x6 : A6) (x7 : A7), i < N → I i x1 x2 x3 x4 x5 x6 x7 → (∃ (y1 : A1) (y2 : A2) (y3 : A3) (y4 : A4) (y5 : A5) (y6 : A6) (y7 : A7), I (i + 1) y1 y2 y3 y4 y5 y6 y7 ∧ F K x1 x2 x3 x4 x5 x6 x7 = K y1 y2 y3 y4 y5 y6 y7) ∨ ∃ b, Q b ∧ F K x1 x2 x3 x4 x5 x6 x7 = r b) (he : ∀ (K : A1 → A2 → A3 → A4 → A5 → A6 → A7 → Option β) (x1 : A1) (x2 : A2) (x3 : A3) (x4 : A4) (x5 : A5) (x6 : A6) (x7 : A7), I N x1 x2 x3 x4 x5 x6 x7 → ∃ b, Q b ∧ F K x1 x2 x3 x4 x5 x6 x7 = r b) {n : Nat} (hn : N < n) : ∃ b, Q b ∧ lp_ F z n x1 x2 x3 x4 x5 x6 x7 = r b := by
  have key : ∀ m i (x1 : A1) (x2 : A2) (x3 : A3) (x4 : A4) (x5 : A5) (x6 : A6) (x7 : A7), i + m = N → I i x1 x2 x3 x4 x5 x6 x7 → ∀ n, m < n → ∃ b, Q b ∧ lp_ F z n x1 x2 x3 x4 x5 x6 x7 = r b := by
    intro m
    induction m with
    | zero =>
      intro i x1 x2 x3 x4 x5 x6 x7 hi hI n hn
      obtain ⟨q, rfl⟩ : ∃ q, n = q + 1 := ⟨n - 1, by omega⟩
      have e : i = N := by omega
      subst e
      exact he _ x1 x2 x3 x4 x5 x6 x7 hI
    | succ m ih =>
      intro i x1 x2 x3 x4 x5 x6 x7 hi hI n hn
      obtain ⟨q, rfl⟩ : ∃ q, n = q + 1 := ⟨n - 1, by omega⟩
      rcases hs (lp_ F z q) i x1 x2 x3 x4 x5 x6 x7 (by omega) hI with ⟨y1, y2, y3, y4, y5, y6, y7, h1, h2⟩ | ⟨b, h1, h2⟩
      · obtain ⟨b, h3, h4⟩ := ih (i + 1) y1 y2 y3 y4 y5 y6 y7 (by omega) h1 q (by omega)
        exact ⟨b, h3, h2.trans h4⟩
      · exact ⟨b, h1, h2⟩
  exact key N 0 x1 x2 x3 x4 x5 x6 x7 (by omega) h0 n hn
theorem lj8 {A1 A2 A3 A4 A5 A6 A7 A8 β γ : Type} {F : (A1 → A2 → A3 → A4 → A5 → A6 → A7 → A8 → Option β) → A1 → A2 → A3 → A4 → A5 → A6 → A7 → A8 → Option β} {z : A1 → A2 → A3 → A4 → A5 → A6 → A7 → A8 → Option β} (N : Nat) (I : Nat → A1 → A2 → A3 → A4 → A5 → A6 → A7 → A8 → Prop) (Q : γ → Prop) (r : γ → Option β) (x1 : A1) (x2 : A2) (x3 : A3) (x4 : A4) (x5 : A5) (x6 : A6) (x7 : A7) (x8 : A8) (h0 : I 0 x1 x2 x3 x4 x5 x6 x7 x8) (hs : ∀ (K : A1 → A2 → A3 → A4 → A5 → A6 → A7 → A8 → Option β) (i : Nat) (x1 : A1) (x2 : A2) (x3 : A3) (x4 : A4) (x5 : A5) (x6 : A6) (x7 : A7) (x8 : A8), i < N → I i x1 x2 x3 x4 x5 x6 x7 x8 → (∃ (y1 : A1) (y2 : A2) (y3 : A3) (y4 : A4) (y5 : A5) (y6 : A6) (y7 : A7) (y8 : A8), I (i + 1) y1 y2 y3 y4 y5 y6 y7 y8 ∧ F K x1 x2 x3 x4 x5 x6 x7 x8 = K y1 y2 y3 y4 y5 y6 y7 y8) ∨ ∃ b, Q b ∧ F K x1 x2 x3 x4 x5 x6 x7 x8 = r b) (he : ∀ (K : A1 → A2 → A3 → A4 → A5 → A6 → A7 → A8 → Option β) (x1 : A1) (x2 : A2) (x3 : A3) (x4 : A4) (x5 : A5) (x6 : A6) (x7 : A7) (x8 : A8), I N x1 x2 x3 x4 x5 x6 x7 x8 → ∃ b, Q b ∧ F K x1 x2 x3 x4 x5 x6 x7 x8 = r b) {n : Nat} (hn : N < n) : ∃ b, Q b ∧ lp_ F z n x1 x2 x3 x4 x5 x6 x7 x8 = r b := by
  have key : ∀ m i (x1 : A1) (x2 : A2) (x3 : A3) (x4 : A4) (x5 : A5) (x6 : A6) (x7 : A7) (x8 : A8), i + m = N → I i x1 x2 x3 x4 x5 x6 x7 x8 → ∀ n, m < n → ∃ b, Q b ∧ lp_ F z n x1 x2 x3 x4 x5 x6 x7 x8 = r b := by
    intro m
    induction m with
    | zero =>
      intro i x1 x2 x3 x4 x5 x6 x7 x8 hi hI n hn
      obtain ⟨q, rfl⟩ : ∃ q, n = q + 1 := ⟨n - 1, by omega⟩
      have e : i = N := by omega
      subst e
      exact he _ x1 x2 x3 x4 x5 x6 x7 x8 hI
    | succ m ih =>
      intro i x1 x2 x3 x4 x5 x6 x7 x8 hi hI n hn
      obtain ⟨q, rfl⟩ : ∃ q, n = q + 1 := ⟨n - 1, by omega⟩
      rcases hs (lp_ F z q) i x1 x2 x3 x4 x5 x6 x7 x8 (by omega) hI with ⟨y1, y2, y3, y4, y5, y6, y7, y8, h1, h2⟩ | ⟨b, h1, h2⟩
      · obtain ⟨b, h3, h4⟩ := ih (i + 1) y1 y2 y3 y4 y5 y6 y7 y8 (by omega) h1 q (by omega)
        exact ⟨b, h3, h2.trans h4⟩
      · exact ⟨b, h1, h2⟩
  exact key N 0 x1 x2 x3 x4 x5 x6 x7 x8 (by omega) h0 n hn
theorem lj9 {A1 A2 A3 A4 A5 A6 A7 A8 A9 β γ : Type} {F : (A1 → A2 → A3 → A4 → A5 → A6 → A7 → A8 → A9 → Option β) → A1 → A2 → A3 → A4 → A5 → A6 → A7 → A8 → A9 → Option β} {z : A1 → A2 → A3 → A4 → A5 → A6 → A7 → A8 → A9 → Option β} (N : Nat) (I : Nat → A1 → A2 → A3 → A4 → A5 → A6 → A7 → A8 → A9 → Prop) (Q : γ → Prop) (r : γ → Option β) (x1 : A1) (x2 : A2) (x3 : A3) (x4 : A4) (x5 : A5) (x6 : A6) (x7 : A7) (x8 : A8) (x9 : A9) (h0 : I 0 x1 x2 x3 x4 x5 x6 x7 x8 x9) (hs : ∀ (K : A1 → A2 → A3 → A4 → A5 → A6 → A7 → A8 → A9 → Option β) (i : Nat) (x1 : A1) (x2 : A2) (x3 : A3) (x4 : A4) (x5 : A5) (x6 : A6) (x7 : A7) (x8 : A8) (x9 : A9), i < N → I i x1 x2 x3 x4 x5 x6 x7 x8 x9 → (∃ (y1 : A1) (y2 : A2) (y3 : A3) (y4 : A4) (y5 : A5) (y6 : A6) (y7 : A7) (y8 : A8) (y9 : A9), I (i + 1) y1 y2 y3 y4 y5 y6 y7 y8 y9 ∧ F K x1 x2 x3 x4 x5 x6 x7 x8 x9 = K y1 y2 y3 y4 y5 y6 y7 y8 y9) ∨ ∃ b, Q b ∧ F K x1 x2 x3 x4 x5 x6 x7 x8 x9 = r b) (he : ∀ (K : A1 → A2 → A3 → A4 → A5 → A6 → A7 → A8 → A9 → Option β) (x1 : A1) (x2 : A2) (x3 : A3) (x4 : A4) (x5 : A5) (x6 : A6) (x7 : A7) (x8 : A8) (x9 : A9), I N x1 x2 x3 x4 x5 x6 x7 x8 x9 → ∃ b, Q b ∧ F K x1 x2 x3 x4 x5 x6 x7 x8 x9 = r b) {n : Nat} (hn : N < n) : ∃ b, Q b ∧ lp_ F z n x1 x2 x3 x4 x5 x6 x7 x8 x9 = r b := by
  have key : ∀ m i (x1 : A1) (x2 : A2) (x3 : A3) (x4 : A4) (x5 : A5) (x6 : A6) (x7 : A7) (x8 : A8) (x9 : A9), i + m = N → I i x1 x2 x3 x4 x5 x6 x7 x8 x9 → ∀ n, m < n → ∃ b, Q b ∧ lp_ F z n x1 x2 x3 x4 x5 x6 x7 x8 x9 = r b := by
    intro m
    induction m with
    | zero =>
      intro i x1 x2 x3 x4 x5 x6 x7 x8 x9 hi hI n hn
      obtain ⟨q, rfl⟩ : ∃ q, n = q + 1 := ⟨n - 1, by omega⟩
      have e : i = N := by omega
      subst e
      exact he _ x1 x2 x3 x4 x5 x6 x7 x8 x9 hI
    | succ m ih =>
      intro i x1 x2 x3 x4 x5 x6 x7 x8 x9 hi hI n hn
      obtain ⟨q, rfl⟩ : ∃ q, n = q + 1 := ⟨n - 1, by omega⟩
      rcases hs (lp_ F z q) i x1 x2 x3 x4 x5 x6 x7 x8 x9 (by omega) hI with ⟨y1, y2, y3, y4, y5, y6, y7, y8, y9, h1, h2⟩ | ⟨b, h1, h2⟩
      · obtain ⟨b, h3, h4⟩ := ih (i + 1) y1 y2 y3 y4 y5 y6 y7 y8 y9 (by omega) h1 q (by omega)
        exact ⟨b, h3, h2.trans h4⟩
      · exact ⟨b, h1, h2⟩
  exact key N 0 x1 x2 x3 x4 x5 x6 x7 x8 x9 (by omega) h0 n hn
