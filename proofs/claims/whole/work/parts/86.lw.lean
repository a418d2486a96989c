/-! constructors: worlds as lists -/
def xg_ (gs : Nat → Nat) : XF := fun A U H => xfC gs A U H ∧ va_AO RX0 U ∧ va_AO RX6 U
theorem xkG {gs : Nat → Nat} : xk_ (xg_ gs) := by
  refine ⟨fun A s U H hW h => ⟨xkC.1 _ _ _ _ hW h.1, va_AO.moved hW.alike h.2.1, va_AO.moved hW.alike h.2.2⟩, fun A U H H1 h hq => ⟨xkC.2.1 _ _ _ _ h.1 hq, h.2⟩, fun A B U H hB h => ⟨xkC.2.2.1 _ _ _ _ hB h.1, h.2⟩, fun A U H g mk av h => ⟨xkC.2.2.2 _ _ _ _ _ _ h.1, va_AO.moved (u := U) (U := U.calling g mk av) (Vm.Alike.refl U.vm) h.2.1, va_AO.moved (u := U) (U := U.calling g mk av) (Vm.Alike.refl U.vm) h.2.2⟩⟩
def pc_ (D : va_G) (cy : Nat → ClassId) (w : va_W) (Xf : XF) (sz : Nat) (U : State) : Prop := U.heap.size = sz ∧ va_P D clG w U.heap ∧ va_K D clG (tyG cy) U ∧ va_D (fun _ => True) w ∧ Xf (va_A w sz) U U.heap
def qc_ {S : Type} (D : va_G) (w : S → va_W) (A : Nat → Prop) : Array Value → State → Outcome → State → Prop := va_Qv (fun _ : S => True) (fun u t => va_P D clG (w u) t.heap ∧ va_D A (w u)) A
def kx_ (cc : ByteArray) (own : String) (Ts : List Cond) (nL : Nat) (A : Nat → Prop) (D : va_G) (cy : Nat → ClassId) (Xf : XF) (p : Program) (s : State) (m : MethodId) (args : Array Value) (meth : Method) (c : Code) : Prop :=
  p.tables.exec = Jvm.exec ∧ c.code = cc ∧ c.maxLocals = nL ∧ s.vm.findClass own = some m.cls ∧ (∀ w ∈ Ts, w.before args s = true) ∧ va_K D clG (tyG cy) s ∧ (∀ q : Nat, s.heap.size ≤ q → A q) ∧ Xf A s s.heap
def iW_ (A : Nat → Prop) (D : va_G) (ws : va_W) (s : State) (H : Heap) (locs : List Loc) : Prop := va_P D clG ws H ∧ va_D A ws ∧ va_S A s.heap H locs
section LW
variable {p : Program} {l : Launch} {e : Env} {R : Room} {s : State} {m : MethodId} {args : Array Value} {below : List Frame} {meth : Method} {c : Code} {H : Heap} {locs : List Loc} {Q : State → Prop}
variable {cc : ByteArray} {own : String} {Ts : List Cond} {nL : Nat} {A : Nat → Prop} {D : va_G} {cy : Nat → ClassId} {Xf : XF} {pc : Nat} {ls : Array Slot} {rest st0 : List Value} {ws ws1 : va_W} {cells slots cells1 slots1 a : Nat}
theorem enc_ {y : MethodName} {wsy ws' : List Cond} {rm : Room} {av : List Value} {sz mc ms : Nat} {w0 : va_W} {Qc : Array Value → State → Outcome → State → Prop} (hy : plainName y.cls = true) (hw : wsy = Cond.code y cc nL none :: ws') (hav : (lg_sl av).length ≤ nL)
    (body : ∀ (p : Program) (e : Env) (s : State) (m : MethodId) (below : List Frame) (meth : Method) (c : Code) (ls : Array Slot), s.heap.size = sz → meth.name = y.name → (meth.sig.returnType = none ∧ meth.locks = false) → kx_ cc y.cls wsy nL (va_A w0 sz) D cy Xf p s m av.toArray meth c → iW_ (va_A w0 sz) D w0 s s.heap [] → lv_has ls nL (lv_args 0 av) → W p l e rm s m av.toArray below meth c s.heap [] 0 0 (MQ below Qc av.toArray s mc ms (va_A w0 sz)) (F0 m 0 ls [])) :
    Met l y wsy rm (va_Pc av (pc_ D cy w0 Xf sz)) Qc mc ms (va_A w0 sz) := by
  refine Met.ofW (cc := cc) (maxL := nL) (ret := none) hy hw ?_
  intro p e s m args below meth c s₁ B hml hv
  obtain ⟨rfl, hsz, hP, hK, hD, hXf⟩ := hv
  have hl := lv_entry av (n := nL) hav
  rw [lg_entry_eq]
  refine body p e s m below meth c _ hsz (name_of_methodNamed B.named B.method).1 ⟨B.returns, B.notSynchronized⟩ ⟨B.exec, B.bytes, hml, findClass_of_methodNamed B.named, atoms_spec (ws := wsy) B.pre, hK, fun q h => Or.inr (by rw [← hsz]; exact h), hXf⟩ ⟨hP, hD.self, va_S.rf⟩ hl
theorem rtc_ {S : Type} {w : S → va_W} {mc ms : Nat} (u : S) (X : kx_ cc own Ts nL A D cy Xf p s m args meth c) (hr : meth.sig.returnType = none ∧ meth.locks = false) (I : iW_ A D ws s H locs) (hw : ws = w u) (hdg : decode cc pc = .ok (.return_, 1)) : W p l e R s m args below meth c H locs mc ms (MQ below (qc_ D w A) args s mc ms A) (F0 m pc ls []) := by
  obtain ⟨hx, hb, hml, hown, hts, hK, hA, hXf⟩ := X
  obtain ⟨hr, hlk⟩ := hr
  subst hw
  exact W.vret hx hb hr (fun t ht hW => ⟨⟨u, rfl, trivial, by rw [ht]; exact I.1, I.2.1⟩, I.2.2.F ht⟩) I.2.2.2.2 hdg
theorem rpv_ (X : px_ cc own Ts nL none p s m args meth c) (hdg : decode cc pc = .ok (.return_, 1)) : W p l e R s m args below meth c s.heap [] 0 0 (MQ below (qp_ none) args s 0 0 (fun _ => False)) (F0 m pc ls []) := by
  obtain ⟨hx, hb, hr, hml, hown, hts, hlk⟩ := X
  exact W.vret hx hb hr (fun t ht hW => ⟨rfl, ht⟩) (fun _ h => by cases h) hdg
theorem lob_ {idx : Nat} (hx : p.tables.exec = Jvm.exec) (hb : c.code = cc) (hml : c.maxLocals = nL) (hown : s.vm.findClass own = some m.cls) (hts : ∀ w ∈ Ts, w.before args s = true) (h1 : Cond.methodLink own idx objectInit ∈ Ts) (h2 : Cond.instanceMethod objectInit ∈ Ts) (h3 : Cond.code objectInit ⟨#[0xb1]⟩ 1 none ∈ Ts) (hls : ls.size = nL) (hR : 1 ≤ R.frames ∧ (rest.map fun v => v.category).sum + 12 ≤ R.locals) (hdg : decode cc pc = .ok (.invokespecial idx, 3))
    (kk : W p l e R s m args below meth c H locs cells slots Q (F0 m (pc + 3) ls rest)) : W p l e R s m args below meth c H locs cells slots Q (F0 m pc ls (.ref a :: rest)) := by
  refine W.objInit hx hb hown (hts _ h1) (hts _ h2) (hts _ h3) rfl (by rw [hml]; exact hls) rfl hdg hR.1 ?_ ?_
  · have : (F0 m pc ls (.ref a :: rest)).monitorRoom = 0 := rfl
    rw [this]; omega
  · exact W.eq (g2 := F0 m (pc + 3) ls rest) rfl kk
theorem lgf_ {C ref : String} {T : u_T} {N ci index : Nat} {fs : List Value} {v : Value} (X : kx_ cc own Ts nL A D cy Xf p s m args meth c) (I : iW_ A D ws s H locs) (hin : ∀ w ∈ u_ws C T N, w ∈ Ts) (k : Nat) (he : ws[k]? = some (a, .inr (ci, fs))) (hc : clG[ci]? = some (C, T, N)) (j : Nat) (hj : j < N) (hlink : Cond.fieldLink own index ref (T j).2.1 (T j).2.2.1 ∈ Ts) (href : (T j).1 = ref) (hv : fs[j]? = some v) (hdg : decode cc pc = .ok (.getfield index, 3))
    (kk : W p l e R s m args below meth c H locs cells slots Q (F0 m (pc + 3) ls (v :: rest))) : W p l e R s m args below meth c H locs cells slots Q (F0 m pc ls (.ref a :: rest)) := by
  obtain ⟨hx, hb, hml, hown, hts, hK, hA, hXf⟩ := X
  exact va_get hx hb hts hin hown hK I.1 k he hc j hj (hts _ hlink) (fun x h => by rw [← href]; exact h) hv hdg kk
theorem lpf_ {C ref : String} {T : u_T} {N ci index : Nat} {fs : List Value} {v : Value} {ty : FieldType} (X : kx_ cc own Ts nL A D cy Xf p s m args meth c) (I : iW_ A D ws s H locs) (hin : ∀ w ∈ u_ws C T N, w ∈ Ts) (ty0 : Nat → FieldType) (hty : ∀ k, k < N → parseFieldDescriptor (T k).2.2.1 = some (ty0 k)) (hnm : ∀ a, a < N → ∀ b, b < N → a ≠ b → (T a).2.1 ≠ (T b).2.1) (k : Nat) (he : ws[k]? = some (a, .inr (ci, fs))) (hc : clG[ci]? = some (C, T, N)) (j : Nat) (hj : j < N) (hlink : Cond.fieldLink own index ref (T j).2.1 (T j).2.2.1 ∈ Ts) (href : (T j).1 = ref) (hfin : (T j).2.2.2 = true) (hnm2 : meth.name = "<init>") (hdecl : (T j).1 = own) (hd : parseFieldDescriptor (T j).2.2.1 = some ty) (hn : narrow ty v = v) (hfit : fits ty v = true) (hl : j < fs.length) (hw1 : ws.set k (a, .inr (ci, fs.set j v)) = ws1) (hdg : decode cc pc = .ok (.putfield index, 3))
    (kk : ∀ (H1 : Heap) (locs1 : List Loc), iW_ A D ws1 s H1 locs1 → W p l e R s m args below meth c H1 locs1 cells slots Q (F0 m (pc + 3) ls rest)) : W p l e R s m args below meth c H locs cells slots Q (F0 m pc ls (v :: .ref a :: rest)) := by
  obtain ⟨hx, hb, hml, hown, hts, hK, hA, hXf⟩ := X
  subst hw1
  exact va_putF hx hb hts hin ty0 hty hnm hown hK I.1 I.2.1 I.2.2 k he hc j hj (hts _ hlink) (fun x h => by rw [← href]; exact h) hfin hnm2 hdecl hd hn hfit hl hdg (fun H1 locs1 hP hD hS => kk H1 locs1 ⟨hP, hD, hS⟩)
theorem lpn_ {C ref : String} {T : u_T} {N ci index : Nat} {fs : List Value} {v : Value} {ty : FieldType} (X : kx_ cc own Ts nL A D cy Xf p s m args meth c) (I : iW_ A D ws s H locs) (hin : ∀ w ∈ u_ws C T N, w ∈ Ts) (ty0 : Nat → FieldType) (hty : ∀ k, k < N → parseFieldDescriptor (T k).2.2.1 = some (ty0 k)) (hnm : ∀ a, a < N → ∀ b, b < N → a ≠ b → (T a).2.1 ≠ (T b).2.1) (k : Nat) (he : ws[k]? = some (a, .inr (ci, fs))) (hc : clG[ci]? = some (C, T, N)) (j : Nat) (hj : j < N) (hlink : Cond.fieldLink own index ref (T j).2.1 (T j).2.2.1 ∈ Ts) (href : (T j).1 = ref) (hfin : (T j).2.2.2 = false) (hd : parseFieldDescriptor (T j).2.2.1 = some ty) (hn : narrow ty v = v) (hfit : fits ty v = true) (hl : j < fs.length) (hw1 : ws.set k (a, .inr (ci, fs.set j v)) = ws1) (hdg : decode cc pc = .ok (.putfield index, 3))
    (kk : ∀ (H1 : Heap) (locs1 : List Loc), iW_ A D ws1 s H1 locs1 → W p l e R s m args below meth c H1 locs1 cells slots Q (F0 m (pc + 3) ls rest)) : W p l e R s m args below meth c H locs cells slots Q (F0 m pc ls (v :: .ref a :: rest)) := by
  obtain ⟨hx, hb, hml, hown, hts, hK, hA, hXf⟩ := X
  subst hw1
  exact va_put hx hb hts hin ty0 hty hnm hown hK I.1 I.2.1 I.2.2 k he hc j hj (hts _ hlink) (fun x h => by rw [← href]; exact h) hfin hd hn hfit hl hdg (fun H1 locs1 hP hD hS => kk H1 locs1 ⟨hP, hD, hS⟩)
theorem lnw_ {C : String} {T : u_T} {N ci index : Nat} {fs : List Value} {ws2 : Nat → va_W} (X : kx_ cc own Ts nL A D cy Xf p s m args meth c) (I : iW_ A D ws s H locs) (hin : ∀ w ∈ u_ws C T N, w ∈ Ts) (ty : Nat → FieldType) (hty : ∀ k, k < N → parseFieldDescriptor (T k).2.2.1 = some (ty k)) (h1 : Cond.classLink own index C ∈ Ts) (h2 : Cond.instantiable C N ∈ Ts) (h3 : Cond.initialized C ∈ Ts) (hc : clG[ci]? = some (C, T, N)) (hfs : ∀ j, j < N → defaultValue (ty j) = vp_V fs j) (hcs : cells + 1 = cells1 ∧ slots + N = slots1) (hR : cells1 ≤ R.cells ∧ slots1 ≤ R.slots) (hw2 : ∀ q, ws ++ [(q, .inr (ci, fs))] = ws2 q) (hdg : decode cc pc = .ok (.new index, 3))
    (kk : ∀ (q : Nat) (H1 : Heap), iW_ A D (ws2 q) s H1 locs → W p l e R s m args below meth c H1 locs cells1 slots1 Q (F0 m (pc + 3) ls (.ref q :: rest))) : W p l e R s m args below meth c H locs cells slots Q (F0 m pc ls rest) := by
  obtain ⟨hx, hb, hml, hown, hts, hK, hA, hXf⟩ := X
  obtain ⟨rfl, rfl⟩ := hcs
  refine va_new hx hb hts hin ty hty hown (hts _ h1) (hts _ h2) (hts _ h3) hK I.1 I.2.1 I.2.2 hA hc hfs hR.1 hR.2 hdg (fun q H1 hP hD hS => kk q H1 ?_)
  rw [← hw2]
  exact ⟨hP, hD, hS⟩
theorem lna_ {atype : ArrayType} (t0 : Nat) {ty : FieldType} {N : Nat} {a0 : vp_A} {ws2 : Nat → va_W} (X : kx_ cc own Ts nL A D cy Xf p s m args meth c) (I : iW_ A D ws s H locs) (harr : Cond.arrayClass ty ∈ Ts) (hty : newarray.typeOf atype = ty) (ht : (tyG cy)[t0]? = some (cy t0, ty)) (hra : ∀ cA : ClassId, va_RA s cA ty → s.vm.findClass ("[" ++ ty.toString) = some cA) (ha : ∀ cA : ClassId, vp_cell cA a0 = arrV cA N (fun _ => defaultValue ty)) (hN : N < 2 ^ 31) (hbytes : N * componentBytes ty ≤ 536870912) (hcs : cells + 1 = cells1 ∧ slots + N = slots1) (hR : cells1 ≤ R.cells ∧ slots1 ≤ R.slots) (hw2 : ∀ q, ws ++ [(q, .inl (cy t0, a0))] = ws2 q) (hdg : decode cc pc = .ok (.newarray atype, 2))
    (kk : ∀ (q : Nat) (H1 : Heap), iW_ A D (ws2 q) s H1 locs → W p l e R s m args below meth c H1 locs cells1 slots1 Q (F0 m (pc + 2) ls (.ref q :: rest))) : W p l e R s m args below meth c H locs cells slots Q (F0 m pc ls (.int (nI N) :: rest)) := by
  obtain ⟨hx, hb, hml, hown, hts, hK, hA, hXf⟩ := X
  obtain ⟨rfl, rfl⟩ := hcs
  subst hty
  refine va_newa hx hb (hts _ harr) rfl hK I.1 I.2.1 I.2.2 hA ha (nI_pos hN) (nI_clamp hN) hbytes hR.1 hR.2 hdg (fun q cA H1 hK1 hP hD hS => ?_)
  have e1 := hra _ (hK1.2 5 (cA, newarray.typeOf atype) rfl).2
  have e2 := hra _ (hK.2 t0 _ ht).2
  have e3 : cA = cy t0 := Option.some.inj (e1.symm.trans e2)
  subst e3
  refine kk q H1 ?_
  rw [← hw2]
  exact ⟨hP, hD, hS⟩
theorem lnq_ (t0 : Nat) {C : String} {index N : Nat} {ws2 : Nat → va_W} (X : kx_ cc own Ts nL A D cy Xf p s m args meth c) (I : iW_ A D ws s H locs) (hcl : Cond.classLink own index C ∈ Ts) (hover : va_AO C s) (ht : (tyG cy)[t0]? = some (cy t0, .object C)) (hN : N < 2 ^ 31) (hbytes : N * 4 ≤ 536870912) (hcs : cells + 1 = cells1 ∧ slots + N = slots1) (hR : cells1 ≤ R.cells ∧ slots1 ≤ R.slots) (hw2 : ∀ q, ws ++ [(q, .inl (cy t0, N, .inr (.inr (.inr (.inr (fun _ => none))))))] = ws2 q) (hdg : decode cc pc = .ok (.anewarray index, 3))
    (kk : ∀ (q : Nat) (H1 : Heap), iW_ A D (ws2 q) s H1 locs → W p l e R s m args below meth c H1 locs cells1 slots1 Q (F0 m (pc + 3) ls (.ref q :: rest))) : W p l e R s m args below meth c H locs cells slots Q (F0 m pc ls (.int (nI N) :: rest)) := by
  obtain ⟨hx, hb, hml, hown, hts, hK, hA, hXf⟩ := X
  obtain ⟨rfl, rfl⟩ := hcs
  refine va_newq hx hb hown (hts _ hcl) hover hK I.1 I.2.1 I.2.2 hA (nI_pos hN) (nI_clamp hN) hbytes hR.1 hR.2 hdg (fun q cA H1 hK1 hP hD hS => ?_)
  obtain ⟨-, -, -, -, -, e1⟩ := (hK1.2 5 (cA, .object C) rfl).2
  obtain ⟨-, -, -, -, -, e2⟩ := (hK.2 t0 _ ht).2
  have e3 : cA = cy t0 := Option.some.inj (e1.symm.trans e2)
  subst e3
  refine kk q H1 ?_
  rw [← hw2]
  exact ⟨hP, hD, hS⟩
theorem lis_ {z i : Nat} {f : Nat → Int32} {x : Int32} (X : kx_ cc own Ts nL A D cy Xf p s m args meth c) (I : iW_ A D ws s H locs) (k : Nat) (he : ws[k]? = some (a, .inl (cy 1, z, .inl f))) (hi : i < z) (hz : z < 2 ^ 31) (hw1 : ws.set k (a, .inl (cy 1, z, .inl (upd f i x))) = ws1) (hdg : decode cc pc = .ok (.iastore, 1))
    (kk : ∀ (H1 : Heap) (locs1 : List Loc), iW_ A D ws1 s H1 locs1 → W p l e R s m args below meth c H1 locs1 cells slots Q (F0 m (pc + 1) ls rest)) : W p l e R s m args below meth c H locs cells slots Q (F0 m pc ls (.int x :: .int (nI i) :: .ref a :: rest)) := by
  obtain ⟨hx, hb, hml, hown, hts, hK, hA, hXf⟩ := X
  subst hw1
  refine va_iast hx hb hK I.1 I.2.1 I.2.2 k 1 he rfl (nI_in hi hz) hdg (fun H1 locs1 hP hD hS => kk H1 locs1 ?_)
  rw [nI_clamp (by omega)] at hP hD
  exact ⟨hP, hD, hS⟩
theorem las_ {z i v qk ci : Nat} {E : String} {r : vw_C} {vs : List Value} {f : Nat → Option Nat} (t0 : Nat) (X : kx_ cc own Ts nL A D cy Xf p s m args meth c) (I : iW_ A D ws s H locs) (k : Nat) (he : ws[k]? = some (a, .inl (cy t0, z, .inr (.inr (.inr (.inr f)))))) (ht : (tyG cy)[t0]? = some (cy t0, .object E)) (hca : r.1 = E ∨ va_Nw (.castable r.1 E) s) (hv : ws[qk]? = some (v, .inr (ci, vs))) (hc : clG[ci]? = some r) (hi : i < z) (hz : z < 2 ^ 31) (hw1 : ws.set k (a, .inl (cy t0, z, .inr (.inr (.inr (.inr (va_up f i (some v))))))) = ws1) (hdg : decode cc pc = .ok (.aastore, 1))
    (kk : ∀ (H1 : Heap) (locs1 : List Loc), iW_ A D ws1 s H1 locs1 → W p l e R s m args below meth c H1 locs1 cells slots Q (F0 m (pc + 1) ls rest)) : W p l e R s m args below meth c H locs cells slots Q (F0 m pc ls (.ref v :: .int (nI i) :: .ref a :: rest)) := by
  obtain ⟨hx, hb, hml, hown, hts, hK, hA, hXf⟩ := X
  subst hw1
  rcases hca with rfl | hca
  · refine va_astq hx hb hK I.1 I.2.1 I.2.2 k t0 qk ci he ht hv hc (nI_in hi hz) hdg (fun H1 locs1 hP hD hS => kk H1 locs1 ?_)
    rw [nI_clamp (by omega)] at hP hD
    exact ⟨hP, hD, hS⟩
  · refine va_astqO hx hb hK I.1 I.2.1 I.2.2 k t0 qk ci he ht hca hv hc (nI_in hi hz) hdg (fun H1 locs1 hP hD hS => kk H1 locs1 ?_)
    rw [nI_clamp (by omega)] at hP hD
    exact ⟨hP, hD, hS⟩
/-- a constructor that does nothing -/
theorem cpv_ {av : Array Value} (hr : va_Run p l e R s m args below meth c H locs cells slots 0 0 (F0 m pc ls st0) rest (qp_ none av) (fun _ => False)) (kk : W p l e R s m args below meth c H locs cells slots Q (F0 m (pc + 3) ls rest)) : W p l e R s m args below meth c H locs cells slots Q (F0 m pc ls st0) := by
  intro T hT X
  obtain ⟨v', st₀, t, T', L, h0, X', hL, e1, e2, ⟨hv, hh⟩, st⟩ := hr T hT X
  cases hv
  obtain ⟨t2, a1, b1⟩ := kk T' (by rw [e1, hh, h0]) (Stand.forget X' (fun q h => (hL q h).elim))
  exact ⟨t2, st t2 a1, b1⟩
theorem rI_ {y : MethodName} {wsy ws' : List Cond} {rm : Room} {bytes : ByteArray} {maxL index nn b : Nat} {Qc : Array Value → State → Outcome → State → Prop} {As : List Value} (S : CallFix p m c cc nL s args Ts own) (hM : Met l y wsy rm (pp_ (.ref b :: As)) Qc 0 0 (fun _ => False)) (hG : GoodIn Ts wsy) (hw : wsy = Cond.code y bytes maxL none :: ws') (hz : rm.cells = 0 ∧ rm.slots = 0) (hini : Cond.initialized y.cls ∈ Ts) (hl : Cond.methodLink own index y ∈ Ts) (hin : Cond.instanceMethod y ∈ Ts) (hy : y.name = "<init>") (hd : y.cls ≠ "java/lang/invoke/MethodHandle" ∧ y.cls ≠ "java/lang/invoke/VarHandle" ∧ (parseMethodDescriptor y.desc).map (fun d => d.parameters.length) = some nn) (hR : rm.frames + 1 ≤ R.frames ∧ 8 + (maxL + 11) + rm.locals ≤ R.locals) (hn : As.length = nn) (hls : ls.size = nL) (hst : st0 = As.reverse ++ .ref b :: rest) (hrm : (rest.map fun v => v.category).sum ≤ 8) (hdg : decode cc pc = .ok (.invokespecial index, 3)) (hf : cells ≤ R.cells ∧ slots ≤ R.slots) :
    va_Run p l e R s m args below meth c H locs cells slots 0 0 (F0 m pc ls st0) rest (Qc (Value.ref b :: As).toArray) (fun _ => False) := by
  have hts := S.2.2.2.2
  exact va_runI (As := As) (rest := rest) S hM (cwI nn hts hG hw hz.1 hz.2 (hts _ hini) (hts _ hl) (hts _ hin) hy hd hR) ⟨fun _ _ _ _ q => q, fun U hU hW => rfl⟩ rfl hn hls hst (lv_room hrm) hdg hf
theorem pc_blind {w : va_W} {sz : Nat} {av : List Value} (hX : xk_ Xf) : FrameBlind (va_Pc av (pc_ D cy w Xf sz)) := by
  intro a0 U g mk q
  obtain ⟨q0, q1, qP, qK, qD, qX⟩ := q
  exact ⟨q0, q1, qP, va_K.moved (u := U) (U := U.calling g mk a0) (Vm.Alike.refl U.vm) qK, qD, hX.2.2.2 _ _ _ _ _ _ qX⟩
theorem pc_at {wc : va_W} {U : State} (hX : xk_ Xf) (hK : va_K D clG (tyG cy) s) (hXf : Xf A s s.heap) (I : iW_ A D ws s H locs) (hPc : va_P D clG wc H) (hDc : va_D A wc) (hFc : ∀ q, va_A wc H.size q → A q) (hU : U.heap = H) (hW : s.WarmedH U.vm) : pc_ D cy wc Xf H.size U := by
  refine ⟨by rw [hU], by rw [hU]; exact hPc, va_K.moved hW.alike hK, hDc.weaken (fun _ _ _ _ => trivial), ?_⟩
  rw [hU]
  exact hX.1 _ _ _ _ hW (hX.2.2.1 _ _ _ _ hFc (hX.2.1 _ _ _ H hXf (fun q h1 h2 => I.2.2.2.1 q h1 h2)))
/-- a constructor that makes cells -/
theorem cI_ {S : Type} {y : MethodName} {wsy ws' : List Cond} {rm : Room} {bytes : ByteArray} {maxL index nn mc ms b : Nat} {As : List Value} {wc wr : va_W} {w1 ws2 : S → va_W} (X : kx_ cc own Ts nL A D cy Xf p s m args meth c) (hX : xk_ Xf) (I : iW_ A D ws s H locs) (hM : Met l y wsy rm (va_Pc (.ref b :: As) (pc_ D cy wc Xf H.size)) (qc_ D w1 (va_A wc H.size)) mc ms (va_A wc H.size)) (hG : GoodIn Ts wsy) (hw : wsy = Cond.code y bytes maxL none :: ws') (hz : rm.cells = mc ∧ rm.slots = ms) (hini : Cond.initialized y.cls ∈ Ts) (hl : Cond.methodLink own index y ∈ Ts) (hin : Cond.instanceMethod y ∈ Ts) (hy : y.name = "<init>") (hd : y.cls ≠ "java/lang/invoke/MethodHandle" ∧ y.cls ≠ "java/lang/invoke/VarHandle" ∧ (parseMethodDescriptor y.desc).map (fun d => d.parameters.length) = some nn) (hR : rm.frames + 1 ≤ R.frames ∧ 8 + (maxL + 11) + rm.locals ≤ R.locals)
    (isC isR : List Nat) (hC : isC.map (fun i => ws[i]?) = wc.map some) (hC2 : isC.filterMap (fun i => ws[i]?) = wc) (hRr : isR.map (fun i => ws[i]?) = wr.map some) (hnC : va_nd isC = true) (hnR : va_nd isR = true) (hdis : ∀ i ∈ isR, i ∉ isC) (h2 : ∀ u, wr ++ w1 u = ws2 u) (hn : As.length = nn) (hls : ls.size = nL) (hst : st0 = As.reverse ++ .ref b :: rest) (hrm : (rest.map fun v => v.category).sum ≤ 8) (hdg : decode cc pc = .ok (.invokespecial index, 3)) (hcs : cells + mc = cells1 ∧ slots + ms = slots1) (hle : cells1 ≤ R.cells ∧ slots1 ≤ R.slots)
    (kk : ∀ (u : S) (H1 : Heap) (locs1 : List Loc), iW_ A D (ws2 u) s H1 locs1 → W p l e R s m args below meth c H1 locs1 cells1 slots1 Q (F0 m (pc + 3) ls rest)) : W p l e R s m args below meth c H locs cells slots Q (F0 m pc ls st0) := by
  obtain ⟨hx, hb, hml, hown, hts, hK, hA, hXf⟩ := X
  obtain ⟨rfl, rfl⟩ := hcs
  have hPc := I.1.sub isC hC2
  have hDc := I.2.1.sub isC hnC hC
  have hFc := va_free (wc := wc) I.2.1 I.2.2 hA isC hC
  refine va_callv (va_runI (As := As) (rest := rest) ⟨hx, hb, hml, hown, hts⟩ hM (cwI nn hts hG hw hz.1 hz.2 (hts _ hini) (hts _ hl) (hts _ hin) hy hd hR) ⟨pc_blind hX, fun U hU hW => ⟨rfl, pc_at hX hK hXf I hPc hDc hFc hU hW⟩⟩ rfl hn hls hst (lv_room hrm) hdg hle) I.2.2 (fun q _ h => hFc q h) hFc (fun u t H1 locs1 ht hvm hw hB hz1 hk1 hS => ?_)
  obtain ⟨hP1, hD1⟩ := hB
  rw [ht] at hP1
  obtain ⟨hP, hD⟩ := va_join I.1 I.2.1 isC isR hC hRr hnR hdis hk1 hFc hP1 hD1
  refine kk u H1 locs1 ?_
  rw [← h2]
  exact ⟨hP, hD, hS⟩
/-- a call of a method of one's own -/
theorem cV_ {S : Type} {y : MethodName} {wsy ws' : List Cond} {rm : Room} {bytes : ByteArray} {maxL index nn b ci N k : Nat} {C : String} {T : u_T} {fs As : List Value} {wc wr : va_W} {w1 ws2 : S → va_W} (X : kx_ cc own Ts nL A D cy Xf p s m args meth c) (hX : xk_ Xf) (I : iW_ A D ws s H locs) (hM : Met l y wsy rm (va_Pc (.ref b :: As) (pc_ D cy wc Xf H.size)) (qc_ D w1 (va_A wc H.size)) 0 0 (va_A wc H.size)) (hT : GoodIn Ts (wsV own index C y wsy)) (hw : wsy = Cond.code y bytes maxL none :: ws') (hz : rm.cells = 0 ∧ rm.slots = 0) (hd : y.cls = C ∧ y.cls ≠ "java/lang/invoke/MethodHandle" ∧ y.cls ≠ "java/lang/invoke/VarHandle" ∧ (parseMethodDescriptor y.desc).map (fun d => d.parameters.length) = some nn) (hR : rm.frames + 1 ≤ R.frames ∧ 8 + (maxL + 11) + rm.locals ≤ R.locals) (he : ws[k]? = some (b, .inr (ci, fs))) (hc : clG[ci]? = some (C, T, N))
    (isC isR : List Nat) (hC : isC.map (fun i => ws[i]?) = wc.map some) (hC2 : isC.filterMap (fun i => ws[i]?) = wc) (hRr : isR.map (fun i => ws[i]?) = wr.map some) (hnC : va_nd isC = true) (hnR : va_nd isR = true) (hdis : ∀ i ∈ isR, i ∉ isC) (h2 : ∀ u, wr ++ w1 u = ws2 u) (hn : As.length = nn) (hls : ls.size = nL) (hst : st0 = As.reverse ++ .ref b :: rest) (hrm : (rest.map fun v => v.category).sum ≤ 8) (hdg : decode cc pc = .ok (.invokevirtual index, 3)) (hle : cells ≤ R.cells ∧ slots ≤ R.slots)
    (kk : ∀ (u : S) (H1 : Heap) (locs1 : List Loc), iW_ A D (ws2 u) s H1 locs1 → W p l e R s m args below meth c H1 locs1 cells slots Q (F0 m (pc + 3) ls rest)) : W p l e R s m args below meth c H locs cells slots Q (F0 m pc ls st0) := by
  obtain ⟨hx, hb, hml, hown, hts, hK, hA, hXf⟩ := X
  have hPc := I.1.sub isC hC2
  have hDc := I.2.1.sub isC hnC hC
  have hFc := va_free (wc := wc) I.2.1 I.2.2 hA isC hC
  refine va_callv (va_runV (As := As) (rest := rest) ⟨hx, hb, hml, hown, hts⟩ hM (cwV nn hts hT hw hz.1 hz.2 hd hR) ⟨pc_blind hX, va_recv hK I.1 hc he, fun U hU hW => ⟨rfl, pc_at hX hK hXf I hPc hDc hFc hU hW⟩⟩ rfl hn hls hst (lv_room hrm) hdg hle) I.2.2 (fun q _ h => hFc q h) hFc (fun u t H1 locs1 ht hvm hw hB hz1 hk1 hS => ?_)
  obtain ⟨hP1, hD1⟩ := hB
  rw [ht] at hP1
  obtain ⟨hP, hD⟩ := va_join I.1 I.2.1 isC isR hC hRr hnR hdis hk1 hFc hP1 hD1
  refine kk u H1 locs1 ?_
  rw [← h2]
  exact ⟨hP, hD, hS⟩
/-- the same, of an object alone; what else there is stays -/
theorem cJ_ {S : Type} {y : MethodName} {wsy ws' : List Cond} {rm : Room} {bytes : ByteArray} {maxL index nn mc ms b : Nat} {As : List Value} {w1 : S → va_W} {Xf2 : XF} (X : kx_ cc own Ts nL A D cy Xf p s m args meth c) (hX : xk_ Xf2) (hXf2 : Xf2 A s s.heap) (I : iW_ A D ws s H locs) (hM : Met l y wsy rm (va_Pc (.ref b :: As) (pc_ D cy ws Xf2 H.size)) (qc_ D w1 (va_A ws H.size)) mc ms (va_A ws H.size)) (hG : GoodIn Ts wsy) (hw : wsy = Cond.code y bytes maxL none :: ws') (hz : rm.cells = mc ∧ rm.slots = ms) (hini : Cond.initialized y.cls ∈ Ts) (hl : Cond.methodLink own index y ∈ Ts) (hin : Cond.instanceMethod y ∈ Ts) (hy : y.name = "<init>") (hd : y.cls ≠ "java/lang/invoke/MethodHandle" ∧ y.cls ≠ "java/lang/invoke/VarHandle" ∧ (parseMethodDescriptor y.desc).map (fun d => d.parameters.length) = some nn) (hR : rm.frames + 1 ≤ R.frames ∧ 8 + (maxL + 11) + rm.locals ≤ R.locals)
    (hn : As.length = nn) (hls : ls.size = nL) (hst : st0 = As.reverse ++ .ref b :: rest) (hrm : (rest.map fun v => v.category).sum ≤ 8) (hdg : decode cc pc = .ok (.invokespecial index, 3)) (hcs : cells + mc = cells1 ∧ slots + ms = slots1) (hle : cells1 ≤ R.cells ∧ slots1 ≤ R.slots)
    (kk : ∀ (u : S) (H1 : Heap) (locs1 : List Loc), iW_ A D (w1 u) s H1 locs1 → va_D (va_A ws H.size) (w1 u) → (∀ q : Nat, q < H.size → ¬ va_A ws H.size q → H1[q]? = H[q]?) → W p l e R s m args below meth c H1 locs1 cells1 slots1 Q (F0 m (pc + 3) ls rest)) : W p l e R s m args below meth c H locs cells slots Q (F0 m pc ls st0) := by
  obtain ⟨hx, hb, hml, hown, hts, hK, hA, hXf⟩ := X
  obtain ⟨rfl, rfl⟩ := hcs
  have hFc : ∀ q, va_A ws H.size q → A q := by
    rintro q (⟨k, e, h⟩ | h)
    · exact I.2.1.2 k _ h
    · exact hA q (Nat.le_trans I.2.2.1 h)
  refine va_callv (va_runI (As := As) (rest := rest) ⟨hx, hb, hml, hown, hts⟩ hM (cwI nn hts hG hw hz.1 hz.2 (hts _ hini) (hts _ hl) (hts _ hin) hy hd hR) ⟨pc_blind hX, fun U hU hW => ⟨rfl, pc_at hX hK hXf2 I I.1 I.2.1 hFc hU hW⟩⟩ rfl hn hls hst (lv_room hrm) hdg hle) I.2.2 (fun q _ h => hFc q h) hFc (fun u t H1 locs1 ht hvm hw hB hz1 hk1 hS => ?_)
  obtain ⟨hP1, hD1⟩ := hB
  rw [ht] at hP1
  exact kk u H1 locs1 ⟨hP1, hD1.weaken (fun k q _ h => hFc q.1 h), hS⟩ hD1 hk1
theorem gW_D2 {n : Nat} {a : Nat → Nat} {w w1 : Nat → va_E} (h : va_D A (gW n a w)) : va_D A (gW n a w1) := by
  refine ⟨fun i j x y hi hj hxy => ?_, fun k q hk => ?_⟩
  · obtain ⟨h1, rfl⟩ := gW_inv hi
    obtain ⟨h2, rfl⟩ := gW_inv hj
    exact h.1 i j _ _ (gW_get h1) (gW_get h2) hxy
  · obtain ⟨h1, rfl⟩ := gW_inv hk
    exact h.2 k (a k, w k) (gW_get h1)
/-- a call of a method that speaks of a world by place -/
theorem cG_ {y : MethodName} {wsy ws' : List Cond} {rm : Room} {bytes : ByteArray} {maxL index nn n k ci N : Nat} {rt : Option FieldType} {C : String} {T : u_T} {o : Option Value} {fs As : List Value} {w w1 : Nat → va_E} {Xf2 : XF} {a : Nat → Nat} (X : kx_ cc own Ts nL A D cy Xf p s m args meth c) (hX : xk_ Xf2) (hXf2 : Xf2 A s s.heap) (I : iW_ A D (gW n a w) s H locs) (hM : Met l y wsy rm (va_Pc (.ref (a k) :: As) (pr_ n a D cy w Xf2 H.size)) (qg_ n a D w1 o H.size) 0 0 (fr_ n a H.size)) (hT : GoodIn Ts (wsV own index C y wsy)) (hw : wsy = Cond.code y bytes maxL rt :: ws') (hz : rm.cells = 0 ∧ rm.slots = 0)
    (hd : y.cls = C ∧ y.cls ≠ "java/lang/invoke/MethodHandle" ∧ y.cls ≠ "java/lang/invoke/VarHandle" ∧ (parseMethodDescriptor y.desc).map (fun d => d.parameters.length) = some nn) (hR : rm.frames + 1 ≤ R.frames ∧ 8 + (maxL + 11) + rm.locals ≤ R.locals) (hk : k < n) (he : w k = .inr (ci, fs)) (hc : clG[ci]? = some (C, T, N)) (hn : As.length = nn) (hls : ls.size = nL) (hst : st0 = As.reverse ++ .ref (a k) :: rest) (hrm : (rest.map fun v => v.category).sum ≤ 8) (hdg : decode cc pc = .ok (.invokevirtual index, 3)) (hle : cells ≤ R.cells ∧ slots ≤ R.slots)
    (kk : ∀ (H1 : Heap) (locs1 : List Loc), iW_ A D (gW n a w1) s H1 locs1 → (∀ q : Nat, q < H.size → ¬ fr_ n a H.size q → H1[q]? = H[q]?) → W p l e R s m args below meth c H1 locs1 cells slots Q (F0 m (pc + 3) ls (o.toList ++ rest))) : W p l e R s m args below meth c H locs cells slots Q (F0 m pc ls st0) := by
  obtain ⟨hx, hb, hml, hown, hts, hK, hA, hXf⟩ := X
  have hA' : ad_ n a := fun i j hi hj h => I.2.1.1 i j _ _ (gW_get hi) (gW_get hj) h
  have hF : ∀ q, fr_ n a H.size q → A q := by
    rintro q (⟨j, hj, rfl⟩ | h)
    · exact I.2.1.2 j _ (gW_get hj)
    · exact hA q (Nat.le_trans I.2.2.1 h)
  have hr := va_runV (p := p) (l := l) (e := e) (below := below) (meth := meth) (locs := locs) (cells := cells) (slots := slots) (g := F0 m pc ls st0) (As := As) (rest := rest) ⟨hx, hb, hml, hown, hts⟩ hM (cwV nn hts hT hw hz.1 hz.2 hd hR) ⟨pr_blind hX, va_recv hK I.1 hc (by rw [gW_get hk, he]), fun U hU hW => ⟨rfl, by rw [hU], by rw [hU]; exact I.1, va_K.moved hW.alike hK, hA', by rw [hU]; exact hX.1 _ _ _ _ hW (hX.2.2.1 _ _ _ _ hF (hX.2.1 _ _ _ H hXf2 (fun q h1 h2 => I.2.2.2.1 q h1 h2)))⟩⟩ rfl hn hls hst (lv_room hrm) hdg hle
  intro T hT X'
  obtain ⟨v, st₀, t, T', L, h0, X2, hL, e1, e2, ⟨⟨hv, hb2⟩, hz2, hk2⟩, st⟩ := hr T hT X'
  cases hv
  rw [h0] at hz2 hk2
  have hkk := kk T'.heap (locs ++ L) ⟨by rw [e1]; exact hb2, gW_D2 I.2.1, Nat.le_trans I.2.2.1 (by rw [e1]; exact hz2), fun q h1 h2 => by rw [e1, hk2 q (Nat.lt_of_lt_of_le h1 I.2.2.1) (fun z => h2 (hF q z))]; exact I.2.2.2.1 q h1 h2, fun q hq => by
      rcases List.mem_append.mp hq with h | h
      · exact I.2.2.2.2 q h
      · exact hF _ (hL q h)⟩ (fun q h1 h2 => by rw [e1]; exact hk2 q h1 h2)
  obtain ⟨t2, a1, b1⟩ := hkk T' rfl X2
  exact ⟨t2, st t2 a1, b1⟩
end LW
