/-! acts -/
def tC (k _ : Nat) : Prop := k = 29 ∨ k = 30
def tM (k j : Nat) : Prop := k = 15 ∨ (k = 0 ∧ 23 ≤ j)
theorem bi_id {α : Type} (m : Option (α × Sg)) : bi_ m (fun r σ => some (r, σ)) = m := by
  cases m <;> rfl
section ACT
variable (σc σm : Sg) (kd : Nat) (nv av : Int32)
def AR (p : Int32) (τc τm : Sg) : Prop := ag tC σc τc ∧ ag tM σm τm ∧ (rd_ τc 29 2 = nv ∧ rd_ τm 0 25 = nv) ∧ (rd_ τc 29 3 = av ∧ rd_ τm 0 26 = av) ∧ rd_ τm 0 24 = nI kd ∧ (rd_ τc 29 4 = p ∧ rd_ τm 0 27 = p) ∧ ∃ c, c ≤ 30 ∧ rd_ τc 29 1 = nI c ∧ rd_ τm 0 23 = nI c ∧ ∀ i, i < c → rd_ τc 30 i = rd_ τm 15 i
def sA {α : Type} (c m : Option (α × Sg)) : Prop := ∃ r τc τm, c = some (r, τc) ∧ m = some (r, τm) ∧ AR σc σm kd nv av (nI 0) τc τm
def sQ' (c m : Option (Int32 × Sg)) : Prop := sA σc σm kd nv av c m ∨ ∃ r r' τc τm, c = some (r, τc) ∧ m = some (r', τm) ∧ AR σc σm kd nv av (nI 1) τc τm
end ACT
section ACT2
variable {σc σm : Sg} {kd : Nat} {nv av : Int32}
theorem sA.bind {α β : Type} {c m : Option (α × Sg)} {f g : α → Sg → Option (β × Sg)} (h : sA σc σm kd nv av c m) (k : ∀ r τc τm, AR σc σm kd nv av (nI 0) τc τm → sA σc σm kd nv av (f r τc) (g r τm)) : sA σc σm kd nv av (bi_ c f) (bi_ m g) := by
  obtain ⟨r, τc, τm, rfl, rfl, h⟩ := h
  exact k r τc τm h
theorem sA.bindQ {α : Type} {c m : Option (α × Sg)} {f g : α → Sg → Option (Int32 × Sg)} (h : sA σc σm kd nv av c m) (k : ∀ r τc τm, AR σc σm kd nv av (nI 0) τc τm → sQ' σc σm kd nv av (f r τc) (g r τm)) : sQ' σc σm kd nv av (bi_ c f) (bi_ m g) := by
  obtain ⟨r, τc, τm, rfl, rfl, h⟩ := h
  exact k r τc τm h
theorem sQ'.bind {c m : Option (Int32 × Sg)} {f g : Int32 → Sg → Option (Int32 × Sg)} (h : sQ' σc σm kd nv av c m) (k : ∀ r τc τm, AR σc σm kd nv av (nI 0) τc τm → sQ' σc σm kd nv av (f r τc) (g r τm)) (k1 : ∀ r r' τc τm, AR σc σm kd nv av (nI 1) τc τm → sQ' σc σm kd nv av (f r τc) (g r' τm)) : sQ' σc σm kd nv av (bi_ c f) (bi_ m g) := by
  rcases h with ⟨r, τc, τm, rfl, rfl, h⟩ | ⟨r, r', τc, τm, rfl, rfl, h⟩
  · exact k r τc τm h
  · exact k1 r r' τc τm h
theorem sA.ret {α : Type} {r r' : α} {τc τm : Sg} (h : AR σc σm kd nv av (nI 0) τc τm) (e : r = r') : sA σc σm kd nv av (some (r, τc)) (some (r', τm)) := ⟨r, τc, τm, rfl, by rw [e], h⟩
theorem sQ'.ret1 {r r' : Int32} {τc τm : Sg} (h : AR σc σm kd nv av (nI 1) τc τm) : sQ' σc σm kd nv av (some (r, τc)) (some (r', τm)) := Or.inr ⟨r, r', τc, τm, rfl, rfl, h⟩
section RUNS
variable {τc τm : Sg}
theorem AR.n (h : AR σc σm kd nv av (nI 0) τc τm) : rd_ τc 29 2 = rd_ τm 0 25 := h.2.2.1.1.trans h.2.2.1.2.symm
theorem AR.a (h : AR σc σm kd nv av (nI 0) τc τm) : rd_ τc 29 3 = rd_ τm 0 26 := h.2.2.2.1.1.trans h.2.2.2.1.2.symm
theorem AR.k {p : Int32} (h : AR σc σm kd nv av p τc τm) : rd_ τm 0 24 = nI kd := h.2.2.2.2.1
theorem runs {v : Int32} (h : AR σc σm kd nv av (nI 0) τc τm) : sA σc σm kd nv av (C4_runs_0 τc v) (M_runs_0 τm v) := by
  obtain ⟨a, b, ⟨n1, n2⟩, ⟨a1, a2⟩, k1, ⟨p1, p2⟩, c, hc, c1, c2, w⟩ := id h
  unfold C4_runs_0 M_runs_0
  rw [p1, if_pos (by decide), c1, c2, if_neg (nI_pos (by omega))]
  by_cases d : c < 30
  · rw [if_pos (show nI c < (30 : Int32) from nI_lt (b := 30) d (by omega)), if_neg (show ¬ (30 : Int32) ≤ nI c from nI_ge (b := 30) d (by omega)), in_nI d (by omega), gd_tt, gd_tt, nI_clamp (by omega), lt_eq, lt_eq, lt_eq, lt_eq, rd_k (by omega), rd_k (by omega), c1, c2, lit, nI_add]
    refine sA.ret ⟨(a.wr (Or.inr rfl)).wr (Or.inl rfl), (b.wr (Or.inl rfl)).wr (Or.inr ⟨rfl, by omega⟩), ⟨?_, ?_⟩, ⟨?_, ?_⟩, ?_, ⟨?_, ?_⟩, c + 1, by omega, rd_same _ _ _ _, rd_same _ _ _ _, fun i hi => ?_⟩ rfl
    · rw [rd_j (by omega), rd_k (by omega)]; exact n1
    · rw [rd_j (by omega), rd_k (by omega)]; exact n2
    · rw [rd_j (by omega), rd_k (by omega)]; exact a1
    · rw [rd_j (by omega), rd_k (by omega)]; exact a2
    · rw [rd_j (by omega), rd_k (by omega)]; exact k1
    · rw [rd_j (by omega), rd_k (by omega)]; exact p1
    · rw [rd_j (by omega), rd_k (by omega)]; exact p2
    · rw [rd_k (k' := 30) (k := 29) (by omega), rd_k (k' := 15) (k := 0) (by omega), rd_wr, rd_wr]
      by_cases e : i = c
      · rw [if_pos ⟨rfl, e⟩, if_pos ⟨rfl, e⟩]
      · rw [if_neg (fun z => e z.2), if_neg (fun z => e z.2)]; exact w i (by omega)
  · rw [if_neg (show ¬ nI c < (30 : Int32) from nI_nlt (b := 30) (by omega) (by omega)), if_pos (show (30 : Int32) ≤ nI c from nI_le (a := 30) (by omega) (by omega))]
    exact sA.ret h rfl
/-- once parted, none runs on the one side -/
theorem runs1 {v : Int32} (h : rd_ τc 29 4 = nI 1) : C4_runs_0 τc v = some ((), τc) := by
  unfold C4_runs_0
  rw [h, if_neg (by decide)]
theorem kickP {x : Int32} (h : AR σc σm kd nv av (nI 0) τc τm) : sA σc σm kd nv av (C0_kicks_k0_0 τc x) (M_kicksPlain_0 τm x) := by
  unfold C0_kicks_k0_0 M_kicksPlain_0
  exact (runs h).bind (fun _ τc τm h => sA.ret h (by rw [h.n]))
theorem kicksU {x : Int32} (h : AR σc σm kd nv av (nI 0) τc τm) : sA σc σm kd nv av (C10_kicks_k2_0 τc x) (M_kicksOfUrchin_0 τm x) := by
  unfold C10_kicks_k2_0 M_kicksOfUrchin_0
  exact (runs h).bind (fun _ τc τm h => (kickP h).bind (fun r τc τm h => sA.ret h rfl))
def ckick (k : Nat) (σ : Sg) (x : Int32) : Option (Int32 × Sg) := if k = 0 then C0_kicks_k0_0 σ x else if k = 1 then C0_kicks_k1_0 σ x else if k = 2 then C10_kicks_k2_0 σ x else if k = 3 then C3_kicks_k3_0 σ x else if k = 4 then C7_kicks_k4_0 σ x else if k = 5 then C0_kicks_k5_0 σ x else none
def cpray (k : Nat) (σ : Sg) (x : Int32) : Option (Int32 × Sg) := if k = 0 then C0_prays_k0_0 σ x else if k = 1 then C5_prays_k1_0 σ x else if k = 2 then C0_prays_k2_0 σ x else if k = 3 then C5_prays_k3_0 σ x else if k = 4 then C7_prays_k4_0 σ x else if k = 5 then C0_prays_k5_0 σ x else none
def cpart (k : Nat) (σ : Sg) (x : Int32) : Option (Int32 × Sg) := if k = 0 then C0_parts_k0_0 σ x else if k = 1 then C0_parts_k1_0 σ x else if k = 2 then C0_parts_k2_0 σ x else if k = 3 then C3_parts_k3_0 σ x else if k = 4 then C0_parts_k4_0 σ x else if k = 5 then C9_parts_k5_0 σ x else none
def cgrow (k : Nat) (σ : Sg) (x : Int32) : Option (Int32 × Sg) := if k = 0 then C0_grows_k0_0 σ x else if k = 1 then C0_grows_k1_0 σ x else if k = 2 then C10_grows_k2_0 σ x else if k = 3 then C0_grows_k3_0 σ x else if k = 4 then C10_grows_k4_0 σ x else if k = 5 then C9_grows_k5_0 σ x else none
theorem kicks {x : Int32} (hk : kd ≤ 5) (h : AR σc σm kd nv av (nI 0) τc τm) : sA σc σm kd nv av (ckick kd τc x) (M_kicks_0 τm x) := by
  have e := h.k
  rcases six hk with rfl | rfl | rfl | rfl | rfl | rfl
  · unfold M_kicks_0
    rw [lt_eq, e, if_neg (by decide), if_neg (by decide), if_neg (by decide)]
    rw [bi_id]
    exact kickP h
  · unfold M_kicks_0
    rw [lt_eq, e, if_neg (by decide), if_neg (by decide), if_neg (by decide)]
    rw [bi_id]
    exact kickP h
  · unfold M_kicks_0
    rw [lt_eq, e, if_pos (by decide)]
    rw [bi_id]
    exact kicksU h
  · unfold M_kicks_0
    rw [lt_eq, e, if_neg (by decide), if_pos (by decide)]
    show sA σc σm 3 nv av (C3_kicks_k3_0 τc x) _
    unfold C3_kicks_k3_0
    exact (runs h).bind (fun _ τc τm h => (kickP h).bind (fun r τc τm h => sA.ret h (by rw [h.a])))
  · unfold M_kicks_0
    rw [lt_eq, e, if_neg (by decide), if_neg (by decide), if_pos (by decide)]
    show sA σc σm 4 nv av (C7_kicks_k4_0 τc x) _
    unfold C7_kicks_k4_0
    exact (runs h).bind (fun _ τc τm h => (kicksU h).bind (fun r τc τm h => sA.ret h rfl))
  · unfold M_kicks_0
    rw [lt_eq, e, if_neg (by decide), if_neg (by decide), if_neg (by decide)]
    rw [bi_id]
    exact kickP h
theorem praysP {x : Int32} (hk : kd ≤ 5) (h : AR σc σm kd nv av (nI 0) τc τm) : sA σc σm kd nv av (bi_ (C4_runs_0 τc 11) fun _ σ => bi_ (ckick kd σ x) fun r σ => some (r - rd_ σ 29 3 * 2, σ)) (M_praysPlain_0 τm x) := by
  unfold M_praysPlain_0
  exact (runs h).bind (fun _ τc τm h => (kicks hk h).bind (fun r τc τm h => sA.ret h (by rw [h.a])))
theorem prays {x : Int32} (hk : kd ≤ 5) (h : AR σc σm kd nv av (nI 0) τc τm) : sA σc σm kd nv av (cpray kd τc x) (M_prays_0 τm x) := by
  have e := h.k
  rcases six hk with rfl | rfl | rfl | rfl | rfl | rfl
  · unfold M_prays_0
    rw [e, if_neg (by decide), if_neg (by decide), if_neg (by decide), bi_id]
    exact praysP (by omega) h
  · unfold M_prays_0
    rw [e, if_pos (by decide)]
    show sA σc σm 1 nv av (C5_prays_k1_0 τc x) _
    unfold C5_prays_k1_0 M_prays_16
    exact (runs h).bind (fun _ τc τm h => (praysP (by omega) h).bind (fun r τc τm h => sA.ret h rfl))
  · unfold M_prays_0
    rw [e, if_neg (by decide), if_neg (by decide), if_neg (by decide), bi_id]
    exact praysP (by omega) h
  · unfold M_prays_0
    rw [e, if_neg (by decide), if_pos (by decide)]
    show sA σc σm 3 nv av (C5_prays_k3_0 τc x) _
    unfold C5_prays_k3_0 M_prays_16
    exact (runs h).bind (fun _ τc τm h => (praysP (by omega) h).bind (fun r τc τm h => sA.ret h rfl))
  · unfold M_prays_0
    rw [e, if_neg (by decide), if_neg (by decide), if_pos (by decide)]
    refine (runs h).bind (fun _ τc τm h => (praysP (by omega) h).bind (fun r τc τm h => ?_))
    rw [← h.a]
    exact (kicks (kd := 4) (by omega) h).bind (fun r2 τc τm h => sA.ret h rfl)
  · unfold M_prays_0
    rw [e, if_neg (by decide), if_neg (by decide), if_neg (by decide), bi_id]
    exact praysP (by omega) h
theorem sub0 {a b : Int32} : a - b = 0 ↔ b = a := by
  rw [Int32.sub_eq_iff_eq_add, Int32.zero_add]
  exact ⟨fun h => h.symm, fun h => h.symm⟩
theorem AR.w27 {p : Int32} {v : Int32} (h : AR σc σm kd nv av p τc τm) : ∀ q : Int32, (rd_ τc 29 4 = q → AR σc σm kd nv av q τc (wr_ τm 0 27 q)) := fun q hq => by
  obtain ⟨a, b, ⟨n1, n2⟩, ⟨a1, a2⟩, k1, ⟨p1, p2⟩, c, hc, c1, c2, w⟩ := h
  exact ⟨a, b.wr (Or.inr ⟨rfl, by omega⟩), ⟨n1, by rw [rd_j (by omega)]; exact n2⟩, ⟨a1, by rw [rd_j (by omega)]; exact a2⟩, by rw [rd_j (by omega)]; exact k1, ⟨hq, rd_same _ _ _ _⟩, c, hc, c1, by rw [rd_j (by omega)]; exact c2, fun i hi => by rw [rd_k (by omega)]; exact w i hi⟩
theorem AR.p1 (h : AR σc σm kd nv av (nI 0) τc τm) : AR σc σm kd nv av (nI 1) (wr_ τc 29 4 (nI 1)) (wr_ τm 0 27 (nI 1)) := by
  obtain ⟨a, b, ⟨n1, n2⟩, ⟨a1, a2⟩, k1, ⟨p1, p2⟩, c, hc, c1, c2, w⟩ := h
  exact ⟨a.wr (Or.inl rfl), b.wr (Or.inr ⟨rfl, by omega⟩), ⟨by rw [rd_j (by omega)]; exact n1, by rw [rd_j (by omega)]; exact n2⟩, ⟨by rw [rd_j (by omega)]; exact a1, by rw [rd_j (by omega)]; exact a2⟩, by rw [rd_j (by omega)]; exact k1, ⟨rd_same _ _ _ _, rd_same _ _ _ _⟩, c, hc, by rw [rd_j (by omega)]; exact c1, by rw [rd_j (by omega)]; exact c2, fun i hi => by rw [rd_k (by omega), rd_k (by omega)]; exact w i hi⟩
theorem partsP {x : Int32} (h : AR σc σm kd nv av (nI 0) τc τm) : sQ' σc σm kd nv av (C0_parts_k0_0 τc x) (M_partsPlain_0 τm x) := by
  unfold C0_parts_k0_0 M_partsPlain_0
  refine (runs h).bindQ (fun _ τc τm h => ?_)
  obtain ⟨a, b, ⟨n1, n2⟩, ⟨a1, a2⟩, k1, ⟨p1, p2⟩, c, hc, c1, c2, w⟩ := id h
  rw [bi_id]
  unfold C4_parted_0 M_partsPlain_25 M_partsPlain_30
  rw [lt_eq, p2, if_pos (show nI 0 = 0 from rfl), n1, n2, a1, a2]
  by_cases d : nv = av
  · rw [if_pos (sub0.mpr d), if_pos d, lt_eq, show bo_ (1 : Int32) = true from rfl, gd_tt, lt_eq, rd_same, if_neg (by decide)]
    exact sQ'.ret1 h.p1
  · have nz : nz_ (av - nv) = true := decide_eq_true (fun q => d (sub0.mp q))
    rw [if_neg (fun q => d (sub0.mp q)), if_neg d, nz, gd_tt, show bo_ (0 : Int32) = true from rfl, gd_tt, lt_eq, rd_same, if_pos rfl, rd_j (by omega), rd_j (by omega), n2, a2, nz, gd_tt]
    exact Or.inl (sA.ret (h.w27 (v := 0) (nI 0) p1) rfl)
theorem parts {x : Int32} (hk : kd ≤ 5) (h : AR σc σm kd nv av (nI 0) τc τm) : sQ' σc σm kd nv av (cpart kd τc x) (M_parts_0 τm x) := by
  have e := h.k
  rcases six hk with rfl | rfl | rfl | rfl | rfl | rfl
  · unfold M_parts_0
    rw [e, if_neg (by decide), if_neg (by decide), bi_id]
    exact partsP h
  · unfold M_parts_0
    rw [e, if_neg (by decide), if_neg (by decide), bi_id]
    exact partsP h
  · unfold M_parts_0
    rw [e, if_neg (by decide), if_neg (by decide), bi_id]
    exact partsP h
  · unfold M_parts_0
    rw [e, if_pos (by decide)]
    show sQ' σc σm 3 nv av (C3_parts_k3_0 τc x) _
    unfold C3_parts_k3_0
    exact (runs h).bindQ (fun _ τc τm h => (partsP h).bind (fun r τc τm h => Or.inl (sA.ret h rfl)) (fun r r' τc τm h => sQ'.ret1 h))
  · unfold M_parts_0
    rw [e, if_neg (by decide), if_neg (by decide), bi_id]
    exact partsP h
  · unfold M_parts_0
    rw [e, if_neg (by decide), if_pos (by decide)]
    refine (runs h).bindQ (fun _ τc τm h => (partsP h).bind (fun r τc τm h => ?_) (fun r r' τc τm h => ?_))
    · rw [h.2.2.2.2.2.1.2, if_pos (by decide), ← h.n]
      exact (kicks (kd := 5) (by omega) h).bindQ (fun r2 τc τm h => Or.inl (sA.ret h rfl))
    · rw [h.2.2.2.2.2.1.2, if_neg (by decide)]
      unfold C0_kicks_k5_0
      rw [runs1 h.2.2.2.2.2.1.1, bi_some, bi_some]
      exact sQ'.ret1 h
theorem growsP {x : Int32} (hk : kd ≤ 5) (h : AR σc σm kd nv av (nI 0) τc τm) : sA σc σm kd nv av (bi_ (C4_runs_0 τc 13) fun _ σ => bi_ (cpray kd σ x) fun r σ => some (r ^^^ 80, σ)) (M_growsPlain_0 τm x) := by
  unfold M_growsPlain_0
  exact (runs h).bind (fun _ τc τm h => (prays hk h).bind (fun r τc τm h => sA.ret h rfl))
theorem grows {x : Int32} (hk : kd ≤ 5) (h : AR σc σm kd nv av (nI 0) τc τm) : sQ' σc σm kd nv av (cgrow kd τc x) (M_grows_0 τm x) := by
  have e := h.k
  rcases six hk with rfl | rfl | rfl | rfl | rfl | rfl
  · unfold M_grows_0
    rw [e, if_neg (by decide), if_neg (by decide), if_neg (by decide), bi_id]
    exact Or.inl (growsP (by omega) h)
  · unfold M_grows_0
    rw [e, if_neg (by decide), if_neg (by decide), if_neg (by decide), bi_id]
    exact Or.inl (growsP (by omega) h)
  · unfold M_grows_0
    rw [e, if_pos (by decide)]
    refine (runs h).bindQ (fun _ τc τm h => (growsP (by omega) h).bindQ (fun r τc τm h => ?_))
    rw [← h.n]
    exact (parts (kd := 2) (by omega) h).bind (fun r2 τc τm h => Or.inl (sA.ret h rfl)) (fun _ _ τc τm h => sQ'.ret1 h)
  · unfold M_grows_0
    rw [e, if_neg (by decide), if_neg (by decide), if_neg (by decide), bi_id]
    exact Or.inl (growsP (by omega) h)
  · unfold M_grows_0
    rw [e, if_neg (by decide), if_pos (by decide)]
    refine (runs h).bindQ (fun _ τc τm h => (growsP (by omega) h).bindQ (fun r τc τm h => ?_))
    rw [← h.n]
    exact (parts (kd := 4) (by omega) h).bind (fun r2 τc τm h => Or.inl (sA.ret h rfl)) (fun _ _ τc τm h => sQ'.ret1 h)
  · unfold M_grows_0
    rw [e, if_neg (by decide), if_neg (by decide), if_pos (by decide)]
    show sQ' σc σm 5 nv av (C9_grows_k5_0 τc x) _
    unfold C9_grows_k5_0
    exact (runs h).bindQ (fun _ τc τm h => (growsP (by omega) h).bindQ (fun r τc τm h => Or.inl (sA.ret h rfl)))
end RUNS
end ACT2
