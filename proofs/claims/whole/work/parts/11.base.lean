abbrev Sg : Type := (Nat → Nat → Int32) × (Nat → Int64)
def rd_ (σ : Sg) (k j : Nat) : Int32 := σ.1 k j
def wr_ (σ : Sg) (k j : Nat) (v : Int32) : Sg := (va_up σ.1 k (upd (σ.1 k) j v), σ.2)
def rl_ (σ : Sg) (j : Nat) : Int64 := σ.2 j
def wl_ (σ : Sg) (j : Nat) (v : Int64) : Sg := (σ.1, vp_updL σ.2 j v)
def bi_ {α β : Type} (x : Option (α × Sg)) (k : α → Sg → Option β) : Option β := match x with
  | some q => k q.1 q.2
  | none => none
theorem bi_of {α β : Type} {x : Option (α × Sg)} {k : α → Sg → Option β} {y : β} (h : bi_ x k = some y) : ∃ (r : α) (σ : Sg), x = some (r, σ) ∧ k r σ = some y := by
  cases x with
  | none => cases h
  | some q => exact ⟨q.1, q.2, rfl, h⟩
def bp_ {α β : Type} (x : Option α) (k : α → Option β) : Option β := match x with
  | some q => k q
  | none => none
theorem bp_of {α β : Type} {x : Option α} {k : α → Option β} {y : β} (h : bp_ x k = some y) : ∃ r : α, x = some r ∧ k r = some y := by
  cases x with
  | none => cases h
  | some q => exact ⟨q, rfl, h⟩
def gd_ {β : Type} (b : Bool) (x : Option β) : Option β := match b with
  | true => x
  | false => none
theorem gd_of {β : Type} {b : Bool} {x : Option β} {y : β} (h : gd_ b x = some y) : b = true ∧ x = some y := by
  cases b with
  | true => exact ⟨rfl, h⟩
  | false => cases h
def lt_ {α β : Type} (v : α) (k : α → Option β) : Option β := k v
theorem lt_at {α β : Type} {v u : α} {k : α → Option β} {y : β} (h : lt_ v k = some y) (e : u = v) : k u = some y := by subst e; exact h
theorem if_t {β : Type} {c : Prop} [Decidable c] {A B : Option β} {y : β} (h : (if c then A else B) = some y) (hc : c) : A = some y := by rwa [if_pos hc] at h
theorem if_f {β : Type} {c : Prop} [Decidable c] {A B : Option β} {y : β} (h : (if c then A else B) = some y) (hc : ¬ c) : B = some y := by rwa [if_neg hc] at h
/-- a reference or null: two ways on -/
def on_ {β : Type} (x : Option Nat) (A : Option β) (B : Nat → Option β) : Option β := match x with
  | none => A
  | some j => B j
theorem on_n {β : Type} {A : Option β} {B : Nat → Option β} {y : β} (h : on_ none A B = some y) : A = some y := h
theorem on_s {β : Type} {j : Nat} {A : Option β} {B : Nat → Option β} {y : β} (h : on_ (some j) A B = some y) : B j = some y := h
def in_ (i : Int32) (n : Nat) : Bool := decide (¬ (i < 0 ∨ n ≤ i.toNatClampNeg))
theorem in_of {i : Int32} {n : Nat} (h : in_ i n = true) : vp_in i n := by
  have h1 : ¬ (i < 0 ∨ n ≤ i.toNatClampNeg) := of_decide_eq_true h
  exact h1
def nz_ (y : Int32) : Bool := decide (¬ y = 0)
theorem nz_of {y : Int32} (h : nz_ y = true) : ¬ y = 0 := of_decide_eq_true h
def nl_ (y : Int64) : Bool := decide (¬ y = 0)
theorem nl_of {y : Int64} (h : nl_ y = true) : ¬ y = 0 := of_decide_eq_true h
def bo_ (x : Int32) : Bool := decide (x = 0 ∨ x = 1)
theorem bo_of {x : Int32} (h : bo_ x = true) : narrow .boolean (.int x) = .int x ∧ fits .boolean (.int x) = true := by
  rcases of_decide_eq_true h with rfl | rfl <;> exact ⟨by decide, by decide⟩
theorem re_p {α : Type} {r r0 : α} (h : some r = some r0) : r0 = r := (Option.some.inj h).symm
theorem re_s {α : Type} {r r0 : α} {σ σ' : Sg} (h : some (r, σ) = some (r0, σ')) : r0 = r ∧ σ' = σ := ⟨(congrArg Prod.fst (Option.some.inj h)).symm, (congrArg Prod.snd (Option.some.inj h)).symm⟩
theorem re_v {u v : Unit} {σ σ' : Sg} (h : some (u, σ) = some (v, σ')) : σ' = σ := (congrArg Prod.snd (Option.some.inj h)).symm
def lf_ (j n : Nat) : Bool := decide (j < n)
theorem lf_of {j n : Nat} (h : lf_ j n = true) : j < n := of_decide_eq_true h
def lp_ {α : Type} (F : α → α) (z : α) : Nat → α
  | 0 => z
  | n + 1 => F (lp_ F z n)
def FU : Nat := 300
/-! worlds by place -/
def gW (n : Nat) (a : Nat → Nat) (w : Nat → va_E) : va_W := (List.range n).map (fun k => (a k, w k))
theorem gW_get {n : Nat} {a : Nat → Nat} {w : Nat → va_E} {k : Nat} (hk : k < n) : (gW n a w)[k]? = some (a k, w k) := by
  simp [gW, hk]
theorem gW_none {n : Nat} {a : Nat → Nat} {w : Nat → va_E} {k : Nat} (hk : ¬ k < n) : (gW n a w)[k]? = none := by
  have h : (gW n a w).length ≤ k := by simp [gW]; omega
  exact List.getElem?_eq_none h
theorem gW_inv {n : Nat} {a : Nat → Nat} {w : Nat → va_E} {k : Nat} {q : Nat × va_E} (h : (gW n a w)[k]? = some q) : k < n ∧ q = (a k, w k) := by
  by_cases hk : k < n
  · rw [gW_get hk] at h
    exact ⟨hk, (Option.some.inj h).symm⟩
  · rw [gW_none hk] at h
    cases h
theorem gW_set {n : Nat} {a : Nat → Nat} {w : Nat → va_E} {k : Nat} (hk : k < n) (e : va_E) : (gW n a w).set k (a k, e) = gW n a (va_up w k e) := by
  apply List.ext_getElem?
  intro j
  by_cases hj : j = k
  · subst hj
    rw [List.getElem?_set_self (by simpa [gW] using hk), gW_get hk, va_up_self]
  · rw [List.getElem?_set_ne (Ne.symm hj)]
    by_cases hjn : j < n
    · rw [gW_get hjn, gW_get hjn, va_up_ne _ _ hj]
    · rw [gW_none hjn, gW_none hjn]
def ad_ (n : Nat) (a : Nat → Nat) : Prop := ∀ i j : Nat, i < n → j < n → a i = a j → i = j
def fr_ (n : Nat) (a : Nat → Nat) (sz : Nat) : Nat → Prop := fun q => (∃ k : Nat, k < n ∧ q = a k) ∨ sz ≤ q
theorem fr_mono {n : Nat} {a : Nat → Nat} {sz sz' : Nat} (h : sz ≤ sz') (q : Nat) (hq : fr_ n a sz' q) : fr_ n a sz q := by
  rcases hq with h1 | h1
  · exact Or.inl h1
  · exact Or.inr (Nat.le_trans h h1)
theorem gW_D {n : Nat} {a : Nat → Nat} {w : Nat → va_E} {sz : Nat} (h : ad_ n a) : va_D (fr_ n a sz) (gW n a w) := by
  refine ⟨fun i j x y hi hj hxy => ?_, fun k q hk => ?_⟩
  · obtain ⟨h1, rfl⟩ := gW_inv hi
    obtain ⟨h2, rfl⟩ := gW_inv hj
    exact h i j h1 h2 hxy
  · obtain ⟨h1, rfl⟩ := gW_inv hk
    exact Or.inl ⟨k, h1, rfl⟩
abbrev clG : List vw_C := [(RX0, TX0, 0), (RX1, TX1, 8), (RX2, TX2, 6), (RX3, TX3, 0), (RX4, TX4, 5), (RX5, TX5, 0), (RX6, TX6, 6), (RX7, TX7, 0), (RX8, TX8, 6), (RX9, TX9, 0), (RX10, TX10, 0), (RX11, TX11, 12), (RX12, TX12, 28)]
abbrev tyG (cy : Nat → ClassId) : List (ClassId × FieldType) := [(cy 0, .byte), (cy 1, .int), (cy 2, .long), (cy 3, .object RX0), (cy 4, .object RX6)]
abbrev XF : Type := (Nat → Prop) → State → Heap → Prop
def xk_ (Xf : XF) : Prop := (∀ (A : Nat → Prop) (s U : State) (H : Heap), s.WarmedH U.vm → Xf A s H → Xf A U H) ∧ (∀ (A : Nat → Prop) (U : State) (H H1 : Heap), Xf A U H → (∀ q : Nat, q < H.size → ¬ A q → H1[q]? = H[q]?) → Xf A U H1) ∧ (∀ (A B : Nat → Prop) (U : State) (H : Heap), (∀ q, B q → A q) → Xf A U H → Xf B U H) ∧ ∀ (A : Nat → Prop) (U : State) (H : Heap) (g : JFrame) (mk : MethodId) (av : Array Value), Xf A U H → Xf A (U.calling g mk av) H
def cx_ (cc : ByteArray) (own : String) (Ts : List Cond) (nL : Nat) (ret : Option FieldType) (n : Nat) (a : Nat → Nat) (D : va_G) (cy : Nat → ClassId) (Xf : XF) (p : Program) (s : State) (m : MethodId) (args : Array Value) (meth : Method) (c : Code) : Prop :=
  p.tables.exec = Jvm.exec ∧ c.code = cc ∧ meth.sig.returnType = ret ∧ c.maxLocals = nL ∧ s.vm.findClass own = some m.cls ∧ (∀ w ∈ Ts, w.before args s = true) ∧ meth.locks = false ∧ va_K D clG (tyG cy) s ∧ ad_ n a ∧ Xf (fr_ n a s.heap.size) s s.heap
def px_ (cc : ByteArray) (own : String) (Ts : List Cond) (nL : Nat) (ret : Option FieldType) (p : Program) (s : State) (m : MethodId) (args : Array Value) (meth : Method) (c : Code) : Prop :=
  p.tables.exec = Jvm.exec ∧ c.code = cc ∧ meth.sig.returnType = ret ∧ c.maxLocals = nL ∧ s.vm.findClass own = some m.cls ∧ (∀ w ∈ Ts, w.before args s = true) ∧ meth.locks = false
def iv_ (n : Nat) (a : Nat → Nat) (D : va_G) (w : Nat → va_E) (s : State) (H : Heap) (locs : List Loc) : Prop := va_P D clG (gW n a w) H ∧ va_S (fr_ n a s.heap.size) s.heap H locs
def pr_ (n : Nat) (a : Nat → Nat) (D : va_G) (cy : Nat → ClassId) (w : Nat → va_E) (Xf : XF) (sz : Nat) (U : State) : Prop := U.heap.size = sz ∧ va_P D clG (gW n a w) U.heap ∧ va_K D clG (tyG cy) U ∧ ad_ n a ∧ Xf (fr_ n a sz) U U.heap
def qg_ (n : Nat) (a : Nat → Nat) (D : va_G) (w : Nat → va_E) (o : Option Value) (sz : Nat) : Array Value → State → Outcome → State → Prop := fun _ st oc t => (oc = .returned o ∧ va_P D clG (gW n a w) t.heap) ∧ va_F (fr_ n a sz) st t
def pp_ (av : List Value) : Array Value → State → Prop := fun v _ => v = av.toArray
def qp_ (o : Option Value) : Array Value → State → Outcome → State → Prop := fun _ st oc t => oc = .returned o ∧ t.heap = st.heap
theorem pr_blind {n : Nat} {a : Nat → Nat} {D : va_G} {cy : Nat → ClassId} {w : Nat → va_E} {Xf : XF} {sz : Nat} {av : List Value} (hX : xk_ Xf) : FrameBlind (va_Pc av (pr_ n a D cy w Xf sz)) := by
  intro a0 U g mk q
  obtain ⟨q0, q1, qP, qK, qD, qX⟩ := q
  exact ⟨q0, q1, qP, va_K.moved (u := U) (U := U.calling g mk a0) (Vm.Alike.refl U.vm) qK, qD, hX.2.2.2 _ _ _ _ _ _ qX⟩
theorem pr_at {n : Nat} {a : Nat → Nat} {D : va_G} {cy : Nat → ClassId} {w : Nat → va_E} {Xf : XF} {s U : State} {H : Heap} {locs : List Loc} (hX : xk_ Xf) (hK : va_K D clG (tyG cy) s) (hA : ad_ n a) (hXf : Xf (fr_ n a s.heap.size) s s.heap) (I : iv_ n a D w s H locs) (hU : U.heap = H) (hW : s.WarmedH U.vm) : pr_ n a D cy w Xf H.size U := by
  refine ⟨by rw [hU], by rw [hU]; exact I.1, va_K.moved hW.alike hK, hA, ?_⟩
  rw [hU]
  have h1 := hX.2.1 _ _ _ H hXf (fun q h1 h2 => I.2.2.1 q h1 h2)
  have h2 := hX.2.2.1 _ (fr_ n a H.size) _ _ (fun q h => fr_mono I.2.1 q h) h1
  exact hX.1 _ _ _ _ hW h2
section BW
variable {p : Program} {l : Launch} {e : Env} {R : Room} {s : State} {m : MethodId} {args : Array Value} {below : List Frame} {meth : Method} {c : Code} {H : Heap} {locs : List Loc} {Q : State → Prop}
variable {cc : ByteArray} {own : String} {Ts : List Cond} {nL : Nat} {ret : Option FieldType} {n : Nat} {a : Nat → Nat} {D : va_G} {cy : Nat → ClassId} {Xf : XF} {w : Nat → va_E} {pc : Nat} {ls : Array Slot} {rest st0 : List Value} {σ σ1 : Sg} {sh : Sg → Nat → va_E}
/-- a method's start -/
theorem ent_ {y : MethodName} {ws ws' : List Cond} {rm : Room} {av : List Value} {sz : Nat} {Qc : Array Value → State → Outcome → State → Prop} (hy : plainName y.cls = true) (hw : ws = Cond.code y cc nL ret :: ws') (hav : (lg_sl av).length ≤ nL)
    (body : ∀ (p : Program) (e : Env) (s : State) (m : MethodId) (below : List Frame) (meth : Method) (c : Code) (ls : Array Slot), s.heap.size = sz → cx_ cc y.cls ws nL ret n a D cy Xf p s m av.toArray meth c → iv_ n a D w s s.heap [] → lv_has ls nL (lv_args 0 av) → W p l e rm s m av.toArray below meth c s.heap [] 0 0 (MQ below Qc av.toArray s 0 0 (fr_ n a sz)) (F0 m 0 ls [])) :
    Met l y ws rm (va_Pc av (pr_ n a D cy w Xf sz)) Qc 0 0 (fr_ n a sz) := by
  refine Met.ofW (cc := cc) (maxL := nL) (ret := ret) hy hw ?_
  intro p e s m args below meth c s₁ B hml hv
  obtain ⟨rfl, hsz, hP, hK, hA, hXf⟩ := hv
  have hl := lv_entry av (n := nL) hav
  rw [lg_entry_eq]
  refine body p e s m below meth c _ hsz ⟨B.exec, B.bytes, B.returns, hml, findClass_of_methodNamed B.named, atoms_spec (ws := ws) B.pre, B.notSynchronized, hK, hA, by rw [hsz]; exact hXf⟩ ⟨hP, va_S.rf⟩ hl
/-- a start of a method that has no world -/
theorem enp_ {y : MethodName} {ws ws' : List Cond} {rm : Room} {av : List Value} {Qc : Array Value → State → Outcome → State → Prop} (hy : plainName y.cls = true) (hw : ws = Cond.code y cc nL ret :: ws') (hav : (lg_sl av).length ≤ nL)
    (body : ∀ (p : Program) (e : Env) (s : State) (m : MethodId) (below : List Frame) (meth : Method) (c : Code) (ls : Array Slot), px_ cc y.cls ws nL ret p s m av.toArray meth c → lv_has ls nL (lv_args 0 av) → W p l e rm s m av.toArray below meth c s.heap [] 0 0 (MQ below Qc av.toArray s 0 0 (fun _ => False)) (F0 m 0 ls [])) :
    Met l y ws rm (pp_ av) Qc 0 0 (fun _ => False) := by
  refine Met.ofW (cc := cc) (maxL := nL) (ret := ret) hy hw ?_
  intro p e s m args below meth c s₁ B hml hv
  cases hv
  have hl := lv_entry av (n := nL) hav
  rw [lg_entry_eq]
  exact body p e s m below meth c _ ⟨B.exec, B.bytes, B.returns, hml, findClass_of_methodNamed B.named, atoms_spec (ws := ws) B.pre, B.notSynchronized⟩ hl
/-- ends -/
theorem rti_ {x : Int32} (X : cx_ cc own Ts nL (some .int) n a D cy Xf p s m args meth c) (I : iv_ n a D w s H locs) (hdg : decode cc pc = .ok (.ireturn, 1)) : W p l e R s m args below meth c H locs 0 0 (MQ below (qg_ n a D w (some (.int x)) s.heap.size) args s 0 0 (fr_ n a s.heap.size)) (F0 m pc ls [.int x]) := by
  obtain ⟨hx, hb, hr, hml, hown, hts, hlk, hK, hA, hXf⟩ := X
  exact W.iret hx hb hr (fun t ht hW => ⟨⟨rfl, by rw [ht]; exact I.1⟩, I.2.F ht⟩) I.2.2.2 hdg
theorem rtz_ {x : Int32} {ty : FieldType} (X : cx_ cc own Ts nL (some ty) n a D cy Xf p s m args meth c) (I : iv_ n a D w s H locs) (hn : narrow ty (.int x) = .int x) (hdg : decode cc pc = .ok (.ireturn, 1)) : W p l e R s m args below meth c H locs 0 0 (MQ below (qg_ n a D w (some (.int x)) s.heap.size) args s 0 0 (fr_ n a s.heap.size)) (F0 m pc ls [.int x]) := by
  obtain ⟨hx, hb, hr, hml, hown, hts, hlk, hK, hA, hXf⟩ := X
  exact W.zret hx hb hr hn (fun t ht hW => ⟨⟨rfl, by rw [ht]; exact I.1⟩, I.2.F ht⟩) I.2.2.2 hdg
theorem rtl_ {x : Int64} (X : cx_ cc own Ts nL (some .long) n a D cy Xf p s m args meth c) (I : iv_ n a D w s H locs) (hdg : decode cc pc = .ok (.lreturn, 1)) : W p l e R s m args below meth c H locs 0 0 (MQ below (qg_ n a D w (some (.long x)) s.heap.size) args s 0 0 (fr_ n a s.heap.size)) (F0 m pc ls [.long x]) := by
  obtain ⟨hx, hb, hr, hml, hown, hts, hlk, hK, hA, hXf⟩ := X
  exact W.lret hx hb hr (fun t ht hW => ⟨⟨rfl, by rw [ht]; exact I.1⟩, I.2.F ht⟩) I.2.2.2 hdg
theorem rtv_ (X : cx_ cc own Ts nL none n a D cy Xf p s m args meth c) (I : iv_ n a D w s H locs) (hdg : decode cc pc = .ok (.return_, 1)) : W p l e R s m args below meth c H locs 0 0 (MQ below (qg_ n a D w none s.heap.size) args s 0 0 (fr_ n a s.heap.size)) (F0 m pc ls []) := by
  obtain ⟨hx, hb, hr, hml, hown, hts, hlk, hK, hA, hXf⟩ := X
  exact W.vret hx hb hr (fun t ht hW => ⟨⟨rfl, by rw [ht]; exact I.1⟩, I.2.F ht⟩) I.2.2.2 hdg
theorem rta_ {v : Value} {cn : String} (X : cx_ cc own Ts nL (some (.object cn)) n a D cy Xf p s m args meth c) (I : iv_ n a D w s H locs) (hv : v = .null ∨ ∃ b, v = .ref b) (hdg : decode cc pc = .ok (.areturn, 1)) : W p l e R s m args below meth c H locs 0 0 (MQ below (qg_ n a D w (some v) s.heap.size) args s 0 0 (fr_ n a s.heap.size)) (F0 m pc ls [v]) := by
  obtain ⟨hx, hb, hr, hml, hown, hts, hlk, hK, hA, hXf⟩ := X
  exact W.aret hx hb hr (Or.inl ⟨_, rfl⟩) hv (fun t ht hW => ⟨⟨rfl, by rw [ht]; exact I.1⟩, I.2.F ht⟩) I.2.2.2 hdg
theorem rpi_ {x : Int32} (X : px_ cc own Ts nL (some .int) p s m args meth c) (hdg : decode cc pc = .ok (.ireturn, 1)) : W p l e R s m args below meth c s.heap [] 0 0 (MQ below (qp_ (some (.int x))) args s 0 0 (fun _ => False)) (F0 m pc ls [.int x]) := by
  obtain ⟨hx, hb, hr, hml, hown, hts, hlk⟩ := X
  exact W.iret hx hb hr (fun t ht hW => ⟨rfl, ht⟩) (fun _ h => by cases h) hdg
theorem rpz_ {x : Int32} {ty : FieldType} (X : px_ cc own Ts nL (some ty) p s m args meth c) (hn : narrow ty (.int x) = .int x) (hdg : decode cc pc = .ok (.ireturn, 1)) : W p l e R s m args below meth c s.heap [] 0 0 (MQ below (qp_ (some (.int x))) args s 0 0 (fun _ => False)) (F0 m pc ls [.int x]) := by
  obtain ⟨hx, hb, hr, hml, hown, hts, hlk⟩ := X
  exact W.zret hx hb hr hn (fun t ht hW => ⟨rfl, ht⟩) (fun _ h => by cases h) hdg
theorem rpl_ {x : Int64} (X : px_ cc own Ts nL (some .long) p s m args meth c) (hdg : decode cc pc = .ok (.lreturn, 1)) : W p l e R s m args below meth c s.heap [] 0 0 (MQ below (qp_ (some (.long x))) args s 0 0 (fun _ => False)) (F0 m pc ls [.long x]) := by
  obtain ⟨hx, hb, hr, hml, hown, hts, hlk⟩ := X
  exact W.lret hx hb hr (fun t ht hW => ⟨rfl, ht⟩) (fun _ h => by cases h) hdg
/-- behind a call -/
theorem cgo_ {o : Option Value} {av : Array Value} {w1 : Nat → va_E} (hr : va_Run p l e R s m args below meth c H locs 0 0 0 0 (F0 m pc ls st0) rest (qg_ n a D w1 o H.size av) (fr_ n a H.size)) (I : iv_ n a D w s H locs) (kk : ∀ (H1 : Heap) (locs1 : List Loc), iv_ n a D w1 s H1 locs1 → W p l e R s m args below meth c H1 locs1 0 0 Q (F0 m (pc + 3) ls (o.toList ++ rest))) : W p l e R s m args below meth c H locs 0 0 Q (F0 m pc ls st0) := by
  intro T hT X
  obtain ⟨v, st₀, t, T', L, h0, X', hL, e1, e2, ⟨⟨hv, hb⟩, hz, hk⟩, st⟩ := hr T hT X
  cases hv
  rw [h0] at hz hk
  obtain ⟨t2, a1, b1⟩ := kk T'.heap (locs ++ L) ⟨by rw [e1]; exact hb, Nat.le_trans I.2.1 (by rw [e1]; exact hz), fun q h1 h2 => by rw [e1, hk q (Nat.lt_of_lt_of_le h1 I.2.1) (fun z => h2 (fr_mono I.2.1 q z))]; exact I.2.2.1 q h1 h2, fun q hq => by
      rcases List.mem_append.mp hq with h | h
      · exact I.2.2.2 q h
      · exact fr_mono I.2.1 _ (hL q h)⟩ T' rfl X'
  exact ⟨t2, st t2 a1, b1⟩
theorem cg_ {v : Value} {av : Array Value} {w1 : Nat → va_E} (hr : va_Run p l e R s m args below meth c H locs 0 0 0 0 (F0 m pc ls st0) rest (qg_ n a D w1 (some v) H.size av) (fr_ n a H.size)) (I : iv_ n a D w s H locs) (kk : ∀ (H1 : Heap) (locs1 : List Loc), iv_ n a D w1 s H1 locs1 → W p l e R s m args below meth c H1 locs1 0 0 Q (F0 m (pc + 3) ls (v :: rest))) : W p l e R s m args below meth c H locs 0 0 Q (F0 m pc ls st0) := cgo_ hr I kk
theorem cv_ {av : Array Value} {w1 : Nat → va_E} (hr : va_Run p l e R s m args below meth c H locs 0 0 0 0 (F0 m pc ls st0) rest (qg_ n a D w1 none H.size av) (fr_ n a H.size)) (I : iv_ n a D w s H locs) (kk : ∀ (H1 : Heap) (locs1 : List Loc), iv_ n a D w1 s H1 locs1 → W p l e R s m args below meth c H1 locs1 0 0 Q (F0 m (pc + 3) ls rest)) : W p l e R s m args below meth c H locs 0 0 Q (F0 m pc ls st0) := cgo_ hr I kk
theorem cp_ {cells slots : Nat} {v : Value} {av : Array Value} (hr : va_Run p l e R s m args below meth c H locs cells slots 0 0 (F0 m pc ls st0) rest (qp_ (some v) av) (fun _ => False)) (kk : W p l e R s m args below meth c H locs cells slots Q (F0 m (pc + 3) ls (v :: rest))) : W p l e R s m args below meth c H locs cells slots Q (F0 m pc ls st0) := by
  intro T hT X
  obtain ⟨v', st₀, t, T', L, h0, X', hL, e1, e2, ⟨hv, hh⟩, st⟩ := hr T hT X
  cases hv
  obtain ⟨t2, a1, b1⟩ := kk T' (by rw [e1, hh, h0]) (Stand.forget X' (fun q h => (hL q h).elim))
  exact ⟨t2, st t2 a1, b1⟩
/-- calls -/
theorem rV_ {y : MethodName} {ws ws' : List Cond} {rm : Room} {bytes : ByteArray} {maxL index nn : Nat} {rt : Option FieldType} {C : String} {Qc : Array Value → State → Outcome → State → Prop} {As : List Value} {k ci N : Nat} {fs : List Value} {T : u_T} (X : cx_ cc own Ts nL ret n a D cy Xf p s m args meth c) (hX : xk_ Xf) (I : iv_ n a D w s H locs) (hM : Met l y ws rm (va_Pc (.ref (a k) :: As) (pr_ n a D cy w Xf H.size)) Qc 0 0 (fr_ n a H.size)) (hT : GoodIn Ts (wsV own index C y ws)) (hw : ws = Cond.code y bytes maxL rt :: ws') (hz : rm.cells = 0 ∧ rm.slots = 0)
    (hd : y.cls = C ∧ y.cls ≠ "java/lang/invoke/MethodHandle" ∧ y.cls ≠ "java/lang/invoke/VarHandle" ∧ (parseMethodDescriptor y.desc).map (fun d => d.parameters.length) = some nn) (hR : rm.frames + 1 ≤ R.frames ∧ 8 + (maxL + 11) + rm.locals ≤ R.locals) (hk : k < n) (he : w k = .inr (ci, fs)) (hc : clG[ci]? = some (C, T, N)) (hn : As.length = nn) (hls : ls.size = nL) (hst : st0 = As.reverse ++ .ref (a k) :: rest) (hrm : (rest.map fun v => v.category).sum ≤ 8) (hdg : decode cc pc = .ok (.invokevirtual index, 3)) :
    va_Run p l e R s m args below meth c H locs 0 0 0 0 (F0 m pc ls st0) rest (Qc (Value.ref (a k) :: As).toArray) (fr_ n a H.size) := by
  obtain ⟨hx, hb, hr, hml, hown, hts, hlk, hK, hA, hXf⟩ := X
  exact va_runV (As := As) (rest := rest) ⟨hx, hb, hml, hown, hts⟩ hM (cwV nn hts hT hw hz.1 hz.2 hd hR) ⟨pr_blind hX, va_recv hK I.1 hc (by rw [gW_get hk, he]), fun U hU hW => ⟨rfl, pr_at hX hK hA hXf I hU hW⟩⟩ rfl hn hls hst (lv_room hrm) hdg ⟨Nat.zero_le _, Nat.zero_le _⟩
theorem rS_ {y : MethodName} {ws ws' : List Cond} {rm : Room} {bytes : ByteArray} {maxL index nn : Nat} {rt : Option FieldType} {Qc : Array Value → State → Outcome → State → Prop} {As : List Value} (X : cx_ cc own Ts nL ret n a D cy Xf p s m args meth c) (hX : xk_ Xf) (I : iv_ n a D w s H locs) (hM : Met l y ws rm (va_Pc As (pr_ n a D cy w Xf H.size)) Qc 0 0 (fr_ n a H.size)) (hT : GoodIn Ts (va_wsS own index y ws)) (hw : ws = Cond.code y bytes maxL rt :: ws') (hz : rm.cells = 0 ∧ rm.slots = 0)
    (hd : y.cls ≠ "java/lang/invoke/MethodHandle" ∧ y.cls ≠ "java/lang/invoke/VarHandle" ∧ (parseMethodDescriptor y.desc).map (fun d => d.parameters.length) = some nn) (hR : rm.frames + 1 ≤ R.frames ∧ 8 + (maxL + 11) + rm.locals ≤ R.locals) (hn : As.length = nn) (hls : ls.size = nL) (hst : st0 = As.reverse ++ rest) (hrm : (rest.map fun v => v.category).sum ≤ 8) (hdg : decode cc pc = .ok (.invokestatic index, 3)) :
    va_Run p l e R s m args below meth c H locs 0 0 0 0 (F0 m pc ls st0) rest (Qc As.toArray) (fr_ n a H.size) := by
  obtain ⟨hx, hb, hr, hml, hown, hts, hlk, hK, hA, hXf⟩ := X
  exact va_runS (As := As) (rest := rest) ⟨hx, hb, hml, hown, hts⟩ hM (va_cwS nn hts hT hw hz.1 hz.2 hd hR) ⟨pr_blind hX, fun U hU hW => ⟨rfl, pr_at hX hK hA hXf I hU hW⟩⟩ rfl hn hls hst (lv_room hrm) hdg ⟨Nat.zero_le _, Nat.zero_le _⟩
theorem rP_ {cells slots : Nat} {y : MethodName} {ws ws' : List Cond} {rm : Room} {bytes : ByteArray} {maxL index nn : Nat} {rt : Option FieldType} {Qc : Array Value → State → Outcome → State → Prop} {As : List Value} (S : CallFix p m c cc nL s args Ts own) (hM : Met l y ws rm (pp_ As) Qc 0 0 (fun _ => False)) (hT : GoodIn Ts (va_wsS own index y ws)) (hw : ws = Cond.code y bytes maxL rt :: ws') (hz : rm.cells = 0 ∧ rm.slots = 0)
    (hd : y.cls ≠ "java/lang/invoke/MethodHandle" ∧ y.cls ≠ "java/lang/invoke/VarHandle" ∧ (parseMethodDescriptor y.desc).map (fun d => d.parameters.length) = some nn) (hR : rm.frames + 1 ≤ R.frames ∧ 8 + (maxL + 11) + rm.locals ≤ R.locals) (hn : As.length = nn) (hls : ls.size = nL) (hst : st0 = As.reverse ++ rest) (hrm : (rest.map fun v => v.category).sum ≤ 8) (hdg : decode cc pc = .ok (.invokestatic index, 3)) (hf : cells ≤ R.cells ∧ slots ≤ R.slots) :
    va_Run p l e R s m args below meth c H locs cells slots 0 0 (F0 m pc ls st0) rest (Qc As.toArray) (fun _ => False) := by
  have hts := S.2.2.2.2
  exact va_runS (As := As) (rest := rest) S hM (va_cwS nn hts hT hw hz.1 hz.2 hd hR) ⟨fun _ _ _ _ q => q, fun U hU hW => rfl⟩ rfl hn hls hst (lv_room hrm) hdg hf
theorem rN_ {cells slots : Nat} {y : MethodName} {ws ws' : List Cond} {rm : Room} {bytes : ByteArray} {maxL index nn : Nat} {rt : Option FieldType} {host : String} {Qc : Array Value → State → Outcome → State → Prop} {As : List Value} (S : CallFix p m c cc nL s args Ts own) (hM : Met l y ws rm (pp_ As) Qc 0 0 (fun _ => False)) (hT : GoodIn Ts ws) (hl : va_Nw (.methodLinkNest own index y host) s) (hs2 : Cond.static y ∈ Ts) (hi2 : Cond.initialized y.cls ∈ Ts) (hw : ws = Cond.code y bytes maxL rt :: ws') (hz : rm.cells = 0 ∧ rm.slots = 0)
    (hd : y.cls ≠ "java/lang/invoke/MethodHandle" ∧ y.cls ≠ "java/lang/invoke/VarHandle" ∧ (parseMethodDescriptor y.desc).map (fun d => d.parameters.length) = some nn) (hR : rm.frames + 1 ≤ R.frames ∧ 8 + (maxL + 11) + rm.locals ≤ R.locals) (hn : As.length = nn) (hls : ls.size = nL) (hst : st0 = As.reverse ++ rest) (hrm : (rest.map fun v => v.category).sum ≤ 8) (hdg : decode cc pc = .ok (.invokestatic index, 3)) (hf : cells ≤ R.cells ∧ slots ≤ R.slots) :
    va_Run p l e R s m args below meth c H locs cells slots 0 0 (F0 m pc ls st0) rest (Qc As.toArray) (fun _ => False) := by
  have hts := S.2.2.2.2
  exact va_runSN (As := As) (rest := rest) S hM ⟨va_cnB nn hts hT hw hz.1 hz.2 hl (hts _ hi2) hd hR, hts _ hs2, trivial⟩ ⟨fun _ _ _ _ q => q, fun U hU hW => rfl⟩ rfl hn hls hst (lv_room hrm) hdg hf
/-- fields and arrays -/
theorem ig_ {C ref : String} {T : u_T} {N ci index : Nat} {fs : List Value} {v : Value} (X : cx_ cc own Ts nL ret n a D cy Xf p s m args meth c) (I : iv_ n a D w s H locs) (hin : ∀ w ∈ u_ws C T N, w ∈ Ts) (k : Nat) (hk : k < n) (he : w k = .inr (ci, fs)) (hc : clG[ci]? = some (C, T, N)) (j : Nat) (hj : j < N) (hlink : Cond.fieldLink own index ref (T j).2.1 (T j).2.2.1 ∈ Ts) (href : (T j).1 = ref) (hv : fs[j]? = some v) (hdg : decode cc pc = .ok (.getfield index, 3))
    (kk : W p l e R s m args below meth c H locs 0 0 Q (F0 m (pc + 3) ls (v :: rest))) : W p l e R s m args below meth c H locs 0 0 Q (F0 m pc ls (.ref (a k) :: rest)) := by
  obtain ⟨hx, hb, hr, hml, hown, hts, hlk, hK, hA, hXf⟩ := X
  exact va_get hx hb hts hin hown hK I.1 k (by rw [gW_get hk, he]) hc j hj (hts _ hlink) (fun x h => by rw [← href]; exact h) hv hdg kk
theorem ip_ {C ref : String} {T : u_T} {N ci index : Nat} {fs : List Value} {v : Value} {σ2 : Sg} {ty : FieldType} (X : cx_ cc own Ts nL ret n a D cy Xf p s m args meth c) (I : iv_ n a D (sh σ) s H locs) (hin : ∀ w ∈ u_ws C T N, w ∈ Ts) (ty0 : Nat → FieldType) (hty : ∀ k, k < N → parseFieldDescriptor (T k).2.2.1 = some (ty0 k)) (hnm : ∀ a, a < N → ∀ b, b < N → a ≠ b → (T a).2.1 ≠ (T b).2.1) (k : Nat) (hk : k < n) (he : sh σ k = .inr (ci, fs)) (hc : clG[ci]? = some (C, T, N)) (j : Nat) (hj : j < N) (hlink : Cond.fieldLink own index ref (T j).2.1 (T j).2.2.1 ∈ Ts) (href : (T j).1 = ref) (hfin : (T j).2.2.2 = false) (hd : parseFieldDescriptor (T j).2.2.1 = some ty) (hn : narrow ty v = v) (hfit : fits ty v = true) (hl : j < fs.length) (hw1 : va_up (sh σ) k (.inr (ci, fs.set j v)) = sh σ2) (hdg : decode cc pc = .ok (.putfield index, 3))
    (kk : ∀ (σ1 : Sg) (H1 : Heap) (locs1 : List Loc), σ1 = σ2 → iv_ n a D (sh σ1) s H1 locs1 → W p l e R s m args below meth c H1 locs1 0 0 Q (F0 m (pc + 3) ls rest)) : W p l e R s m args below meth c H locs 0 0 Q (F0 m pc ls (v :: .ref (a k) :: rest)) := by
  obtain ⟨hx, hb, hr, hml, hown, hts, hlk, hK, hA, hXf⟩ := X
  refine va_put hx hb hts hin ty0 hty hnm hown hK I.1 (gW_D hA) I.2 k (by rw [gW_get hk, he]) hc j hj (hts _ hlink) (fun x h => by rw [← href]; exact h) hfin hd hn hfit hl hdg (fun H1 locs1 hP hD hS => kk σ2 H1 locs1 rfl ⟨?_, hS⟩)
  rw [gW_set hk, hw1] at hP
  exact hP
theorem ia_ {z : Nat} {f : Nat → Int32} {i v0 : Int32} (X : cx_ cc own Ts nL ret n a D cy Xf p s m args meth c) (I : iv_ n a D w s H locs) (k : Nat) (hk : k < n) (he : w k = .inl (cy 1, z, .inl f)) (hi : vp_in i z) (hv : f i.toNatClampNeg = v0) (hdg : decode cc pc = .ok (.iaload, 1))
    (kk : W p l e R s m args below meth c H locs 0 0 Q (F0 m (pc + 1) ls (.int v0 :: rest))) : W p l e R s m args below meth c H locs 0 0 Q (F0 m pc ls (.int i :: .ref (a k) :: rest)) := by
  obtain ⟨hx, hb, hr, hml, hown, hts, hlk, hK, hA, hXf⟩ := X
  subst hv
  exact va_iald hx hb hK I.1 k 1 (by rw [gW_get hk, he]) rfl hi hdg kk
theorem is_ {z : Nat} {f : Nat → Int32} {i x : Int32} {σ2 : Sg} (X : cx_ cc own Ts nL ret n a D cy Xf p s m args meth c) (I : iv_ n a D (sh σ) s H locs) (k : Nat) (hk : k < n) (he : sh σ k = .inl (cy 1, z, .inl f)) (hi : vp_in i z) (hw1 : va_up (sh σ) k (.inl (cy 1, z, .inl (upd f i.toNatClampNeg x))) = sh σ2) (hdg : decode cc pc = .ok (.iastore, 1))
    (kk : ∀ (σ1 : Sg) (H1 : Heap) (locs1 : List Loc), σ1 = σ2 → iv_ n a D (sh σ1) s H1 locs1 → W p l e R s m args below meth c H1 locs1 0 0 Q (F0 m (pc + 1) ls rest)) : W p l e R s m args below meth c H locs 0 0 Q (F0 m pc ls (.int x :: .int i :: .ref (a k) :: rest)) := by
  obtain ⟨hx, hb, hr, hml, hown, hts, hlk, hK, hA, hXf⟩ := X
  refine va_iast hx hb hK I.1 (gW_D hA) I.2 k 1 (by rw [gW_get hk, he]) rfl hi hdg (fun H1 locs1 hP hD hS => kk σ2 H1 locs1 rfl ⟨?_, hS⟩)
  rw [gW_set hk, hw1] at hP
  exact hP
end BW
