section BC
variable {p : Program} {l : Launch} {e : Env} {R : Room} {s : State} {m : MethodId} {args : Array Value} {below : List Frame} {meth : Method} {c : Code} {H : Heap} {locs : List Loc} {Q : State → Prop}
variable {cc : ByteArray} {own : String} {Ts : List Cond} {nL : Nat} {ret : Option FieldType} {n : Nat} {a : Nat → Nat} {D : va_G} {cy : Nat → ClassId} {Xf : XF} {w : Nat → va_E} {pc : Nat} {ls : Array Slot} {rest st0 : List Value} {σ σ1 : Sg} {sh : Sg → Nat → va_E}
theorem ib_ {z : Nat} {f : Nat → Int32} {i v0 : Int32} (X : cx_ cc own Ts nL ret n a D cy Xf p s m args meth c) (I : iv_ n a D w s H locs) (k : Nat) (hk : k < n) (he : w k = .inl (cy 0, z, .inl f)) (hi : vp_in i z) (hv : f i.toNatClampNeg = v0) (hdg : decode cc pc = .ok (.baload, 1))
    (kk : W p l e R s m args below meth c H locs 0 0 Q (F0 m (pc + 1) ls (.int v0 :: rest))) : W p l e R s m args below meth c H locs 0 0 Q (F0 m pc ls (.int i :: .ref (a k) :: rest)) := by
  obtain ⟨hx, hb, hr, hml, hown, hts, hlk, hK, hA, hXf⟩ := X
  subst hv
  exact va_bald hx hb hK I.1 k 0 (by rw [gW_get hk, he]) rfl hi hdg kk
theorem bs_ {z : Nat} {f : Nat → Int32} {i x : Int32} {σ2 : Sg} (X : cx_ cc own Ts nL ret n a D cy Xf p s m args meth c) (I : iv_ n a D (sh σ) s H locs) (k : Nat) (hk : k < n) (he : sh σ k = .inl (cy 0, z, .inl f)) (hi : vp_in i z) (hw1 : va_up (sh σ) k (.inl (cy 0, z, .inl (upd f i.toNatClampNeg x.toInt8.toInt32))) = sh σ2) (hdg : decode cc pc = .ok (.bastore, 1))
    (kk : ∀ (σ1 : Sg) (H1 : Heap) (locs1 : List Loc), σ1 = σ2 → iv_ n a D (sh σ1) s H1 locs1 → W p l e R s m args below meth c H1 locs1 0 0 Q (F0 m (pc + 1) ls rest)) : W p l e R s m args below meth c H locs 0 0 Q (F0 m pc ls (.int x :: .int i :: .ref (a k) :: rest)) := by
  obtain ⟨hx, hb, hr, hml, hown, hts, hlk, hK, hA, hXf⟩ := X
  refine va_bast hx hb hK I.1 (gW_D hA) I.2 k 0 (by rw [gW_get hk, he]) rfl hi hdg (fun H1 locs1 hP hD hS => kk σ2 H1 locs1 rfl ⟨?_, hS⟩)
  rw [gW_set hk, vp_nar_byte, hw1] at hP
  exact hP
theorem il_ {z : Nat} {f : Nat → Int64} {i : Int32} {v0 : Int64} (X : cx_ cc own Ts nL ret n a D cy Xf p s m args meth c) (I : iv_ n a D w s H locs) (k : Nat) (hk : k < n) (he : w k = .inl (cy 2, z, .inr (.inl f))) (hi : vp_in i z) (hv : f i.toNatClampNeg = v0) (hdg : decode cc pc = .ok (.laload, 1))
    (kk : W p l e R s m args below meth c H locs 0 0 Q (F0 m (pc + 1) ls (.long v0 :: rest))) : W p l e R s m args below meth c H locs 0 0 Q (F0 m pc ls (.int i :: .ref (a k) :: rest)) := by
  obtain ⟨hx, hb, hr, hml, hown, hts, hlk, hK, hA, hXf⟩ := X
  subst hv
  exact va_lald hx hb hK I.1 k 2 (by rw [gW_get hk, he]) rfl hi hdg kk
theorem sl_ {z : Nat} {f : Nat → Int64} {i : Int32} {x : Int64} {σ2 : Sg} (X : cx_ cc own Ts nL ret n a D cy Xf p s m args meth c) (I : iv_ n a D (sh σ) s H locs) (k : Nat) (hk : k < n) (he : sh σ k = .inl (cy 2, z, .inr (.inl f))) (hi : vp_in i z) (hw1 : va_up (sh σ) k (.inl (cy 2, z, .inr (.inl (vp_updL f i.toNatClampNeg x)))) = sh σ2) (hdg : decode cc pc = .ok (.lastore, 1))
    (kk : ∀ (σ1 : Sg) (H1 : Heap) (locs1 : List Loc), σ1 = σ2 → iv_ n a D (sh σ1) s H1 locs1 → W p l e R s m args below meth c H1 locs1 0 0 Q (F0 m (pc + 1) ls rest)) : W p l e R s m args below meth c H locs 0 0 Q (F0 m pc ls (.long x :: .int i :: .ref (a k) :: rest)) := by
  obtain ⟨hx, hb, hr, hml, hown, hts, hlk, hK, hA, hXf⟩ := X
  refine va_last hx hb hK I.1 (gW_D hA) I.2 k 2 (by rw [gW_get hk, he]) rfl hi hdg (fun H1 locs1 hP hD hS => kk σ2 H1 locs1 rfl ⟨?_, hS⟩)
  rw [gW_set hk, hw1] at hP
  exact hP
theorem aq_ {z t b : Nat} {C : String} {f : Nat → Option Nat} {i : Int32} (X : cx_ cc own Ts nL ret n a D cy Xf p s m args meth c) (I : iv_ n a D w s H locs) (k : Nat) (hk : k < n) (he : w k = .inl (cy t, z, .inr (.inr (.inr (.inr f))))) (ht : (tyG cy)[t]? = some (cy t, .object C)) (hi : vp_in i z) (hv : f i.toNatClampNeg = some b) (hdg : decode cc pc = .ok (.aaload, 1))
    (kk : W p l e R s m args below meth c H locs 0 0 Q (F0 m (pc + 1) ls (.ref b :: rest))) : W p l e R s m args below meth c H locs 0 0 Q (F0 m pc ls (.int i :: .ref (a k) :: rest)) := by
  obtain ⟨hx, hb, hr, hml, hown, hts, hlk, hK, hA, hXf⟩ := X
  refine va_aldq hx hb hK I.1 k t (by rw [gW_get hk, he]) ht hi hdg ?_
  rw [hv]
  exact kk
theorem an_ {z : Nat} {f : Nat → Int32} {v0 : Int32} (X : cx_ cc own Ts nL ret n a D cy Xf p s m args meth c) (I : iv_ n a D w s H locs) (k : Nat) (hk : k < n) (he : w k = .inl (cy 1, z, .inl f)) (hv : Int32.ofNat z = v0) (hdg : decode cc pc = .ok (.arraylength, 1))
    (kk : W p l e R s m args below meth c H locs 0 0 Q (F0 m (pc + 1) ls (.int v0 :: rest))) : W p l e R s m args below meth c H locs 0 0 Q (F0 m pc ls (.ref (a k) :: rest)) := by
  obtain ⟨hx, hb, hr, hml, hown, hts, hlk, hK, hA, hXf⟩ := X
  exact va_alen hx hb hK I.1 k 1 (by rw [gW_get hk, he]) (ty := .int) rfl hv hdg kk
theorem rO_ {x y : MethodName} {ws ws' : List Cond} {rm : Room} {bytes b0 : ByteArray} {maxL m0 index nn : Nat} {rt r0 : Option FieldType} {C owner : String} {Qc : Array Value → State → Outcome → State → Prop} {As : List Value} {k ci N : Nat} {fs : List Value} {T : u_T} (X : cx_ cc own Ts nL ret n a D cy Xf p s m args meth c) (hX : xk_ Xf) (I : iv_ n a D w s H locs) (hM : Met l y ws rm (va_Pc (.ref (a k) :: As) (pr_ n a D cy w Xf H.size)) Qc 0 0 (fr_ n a H.size)) (hT : GoodIn Ts (va_wsO own index C owner x y ws)) (hw : ws = Cond.code y bytes maxL rt :: ws') (hz : rm.cells = 0 ∧ rm.slots = 0)
    (h0 : Cond.code ⟨owner, x.name, x.desc⟩ b0 m0 r0 ∈ Ts) (hd : owner ≠ "java/lang/invoke/MethodHandle" ∧ owner ≠ "java/lang/invoke/VarHandle" ∧ (parseMethodDescriptor x.desc).map (fun d => d.parameters.length) = some nn) (hR : rm.frames + 1 ≤ R.frames ∧ 8 + (maxL + 11) + rm.locals ≤ R.locals) (hk : k < n) (he : w k = .inr (ci, fs)) (hc : clG[ci]? = some (C, T, N)) (hn : As.length = nn) (hls : ls.size = nL) (hst : st0 = As.reverse ++ .ref (a k) :: rest) (hrm : (rest.map fun v => v.category).sum ≤ 8) (hdg : decode cc pc = .ok (.invokevirtual index, 3)) :
    va_Run p l e R s m args below meth c H locs 0 0 0 0 (F0 m pc ls st0) rest (Qc (Value.ref (a k) :: As).toArray) (fr_ n a H.size) := by
  obtain ⟨hx, hb, hr, hml, hown, hts, hlk, hK, hA, hXf⟩ := X
  exact va_runU (As := As) (rest := rest) ⟨hx, hb, hml, hown, hts⟩ hM (va_cwO nn hts hT hw hz.1 hz.2 h0 hd hR) ⟨pr_blind hX, va_recv hK I.1 hc (by rw [gW_get hk, he]), fun U hU hW => ⟨rfl, pr_at hX hK hA hXf I hU hW⟩⟩ rfl hn hls hst (lv_room hrm) hdg ⟨Nat.zero_le _, Nat.zero_le _⟩
theorem rU_ {x y : MethodName} {ws ws' : List Cond} {rm : Room} {bytes : ByteArray} {maxL index nn : Nat} {rt : Option FieldType} {C owner : String} {Qc : Array Value → State → Outcome → State → Prop} {As : List Value} {k ci N : Nat} {fs : List Value} {T : u_T} (X : cx_ cc own Ts nL ret n a D cy Xf p s m args meth c) (hX : xk_ Xf) (I : iv_ n a D w s H locs) (hM : Met l y ws rm (va_Pc (.ref (a k) :: As) (pr_ n a D cy w Xf H.size)) Qc 0 0 (fr_ n a H.size)) (hT : GoodIn Ts (va_wsU own index C owner x y ws)) (hw : ws = Cond.code y bytes maxL rt :: ws') (hz : rm.cells = 0 ∧ rm.slots = 0)
    (hyx : y = ⟨owner, x.name, x.desc⟩) (hd : owner ≠ "java/lang/invoke/MethodHandle" ∧ owner ≠ "java/lang/invoke/VarHandle" ∧ (parseMethodDescriptor x.desc).map (fun d => d.parameters.length) = some nn) (hR : rm.frames + 1 ≤ R.frames ∧ 8 + (maxL + 11) + rm.locals ≤ R.locals) (hk : k < n) (he : w k = .inr (ci, fs)) (hc : clG[ci]? = some (C, T, N)) (hn : As.length = nn) (hls : ls.size = nL) (hst : st0 = As.reverse ++ .ref (a k) :: rest) (hrm : (rest.map fun v => v.category).sum ≤ 8) (hdg : decode cc pc = .ok (.invokevirtual index, 3)) :
    va_Run p l e R s m args below meth c H locs 0 0 0 0 (F0 m pc ls st0) rest (Qc (Value.ref (a k) :: As).toArray) (fr_ n a H.size) := by
  obtain ⟨hx, hb, hr, hml, hown, hts, hlk, hK, hA, hXf⟩ := X
  exact va_runU (As := As) (rest := rest) ⟨hx, hb, hml, hown, hts⟩ hM (va_cwU nn hts hT hw hz.1 hz.2 hyx hd hR) ⟨pr_blind hX, va_recv hK I.1 hc (by rw [gW_get hk, he]), fun U hU hW => ⟨rfl, pr_at hX hK hA hXf I hU hW⟩⟩ rfl hn hls hst (lv_room hrm) hdg ⟨Nat.zero_le _, Nat.zero_le _⟩
theorem rSU_ {y : MethodName} {ws ws' : List Cond} {rm : Room} {bytes : ByteArray} {maxL index nn : Nat} {rt : Option FieldType} {C : String} {Qc : Array Value → State → Outcome → State → Prop} {As : List Value} {k ci N : Nat} {fs : List Value} {T : u_T} (X : cx_ cc own Ts nL ret n a D cy Xf p s m args meth c) (hX : xk_ Xf) (I : iv_ n a D w s H locs) (hM : Met l y ws rm (va_Pc (.ref (a k) :: As) (pr_ n a D cy w Xf H.size)) Qc 0 0 (fr_ n a H.size)) (hT : GoodIn Ts (va_wsSU own index y ws)) (hw : ws = Cond.code y bytes maxL rt :: ws') (hz : rm.cells = 0 ∧ rm.slots = 0)
    (hd : y.name ≠ "<init>" ∧ (parseMethodDescriptor y.desc).map (fun d => d.parameters.length) = some nn) (hR : rm.frames + 1 ≤ R.frames ∧ 8 + (maxL + 11) + rm.locals ≤ R.locals) (hk : k < n) (he : w k = .inr (ci, fs)) (hc : clG[ci]? = some (C, T, N)) (hn : As.length = nn) (hls : ls.size = nL) (hst : st0 = As.reverse ++ .ref (a k) :: rest) (hrm : (rest.map fun v => v.category).sum ≤ 8) (hdg : decode cc pc = .ok (.invokespecial index, 3)) :
    va_Run p l e R s m args below meth c H locs 0 0 0 0 (F0 m pc ls st0) rest (Qc (Value.ref (a k) :: As).toArray) (fr_ n a H.size) := by
  obtain ⟨hx, hb, hr, hml, hown, hts, hlk, hK, hA, hXf⟩ := X
  exact va_runSU (As := As) (rest := rest) (hK.1 ci _ hc).2 ⟨hx, hb, hml, hown, hts⟩ hM (va_cwSU nn hts hT hw hz.1 hz.2 hd hR) ⟨pr_blind hX, va_recv hK I.1 hc (by rw [gW_get hk, he]), fun U hU hW => ⟨rfl, pr_at hX hK hA hXf I hU hW⟩⟩ rfl hn hls hst (lv_room hrm) hdg ⟨Nat.zero_le _, Nat.zero_le _⟩
/-- a call on a String constant -/
theorem rVs_ {gs : Nat → Nat} {y : MethodName} {ws ws' : List Cond} {rm : Room} {bytes : ByteArray} {maxL index nn : Nat} {rt : Option FieldType} {Qc : Array Value → State → Outcome → State → Prop} {As : List Value} {z : Nat} (X : cx_ cc own Ts nL ret n a D cy (xfC gs) p s m args meth c) (I : iv_ n a D w s H locs) (hM : Met l y ws rm (va_Pc (.ref (gs (2 + z)) :: As) (pr_ n a D cy w (xfC gs) H.size)) Qc 0 0 (fr_ n a H.size)) (hT : GoodIn Ts (wsV own index "java/lang/String" y ws)) (hw : ws = Cond.code y bytes maxL rt :: ws') (hz : rm.cells = 0 ∧ rm.slots = 0)
    (hd : y.cls = "java/lang/String" ∧ y.cls ≠ "java/lang/invoke/MethodHandle" ∧ y.cls ≠ "java/lang/invoke/VarHandle" ∧ (parseMethodDescriptor y.desc).map (fun d => d.parameters.length) = some nn) (hR : rm.frames + 1 ≤ R.frames ∧ 8 + (maxL + 11) + rm.locals ≤ R.locals) (hk : z < 18) (hn : As.length = nn) (hls : ls.size = nL) (hst : st0 = As.reverse ++ .ref (gs (2 + z)) :: rest) (hrm : (rest.map fun v => v.category).sum ≤ 8) (hdg : decode cc pc = .ok (.invokevirtual index, 3)) :
    va_Run p l e R s m args below meth c H locs 0 0 0 0 (F0 m pc ls st0) rest (Qc (Value.ref (gs (2 + z)) :: As).toArray) (fr_ n a H.size) := by
  obtain ⟨hx, hb, hr, hml, hown, hts, hlk, hK, hA, hXf⟩ := X
  exact va_runV (As := As) (rest := rest) ⟨hx, hb, hml, hown, hts⟩ hM (cwV nn hts hT hw hz.1 hz.2 hd hR) ⟨pr_blind xkC, vk_recv (i := z) (adK := fun i => gs (2 + i)) (xC_st hXf) hk I.2, fun U hU hW => ⟨rfl, pr_at xkC hK hA hXf I hU hW⟩⟩ rfl hn hls hst (lv_room hrm) hdg ⟨Nat.zero_le _, Nat.zero_le _⟩
end BC
/-! String's own methods, on the constants -/
theorem sln_sh : ∀ z, z < 18 → sln z >>> ((0 : Int32) &&& 31) = sln z := by decide +kernel
theorem sch_raw : ∀ z, z < 18 → ∀ j, j < lenS.getD z 0 → ((((bytS.getD z []).getD j 0) &&& (255 : Int32)).toUInt32 % 65536).toInt32 = sch z j := by decide +kernel
theorem lenS_small : ∀ z, z < 18 → lenS.getD z 0 < 100 := by decide +kernel
set_option maxRecDepth 100000 in
theorem c_coder {l : Launch} {D : va_G} {cy : Nat → ClassId} {a gs : Nat → Nat} {σ : Sg} {z : Nat} (hz : z < 18) (sz : Nat) : Met l yJ0_coder_7d493 wsJ0_coder_7d493 ({ frames := 0, cells := 0, slots := 0, locals := 0 }) (va_Pc [.ref (gs (2 + z))] (pr_ 59 a D cy (shC cy a σ) (xfC gs) sz)) (qg_ 59 a D (shC cy a σ) (some (.int 0)) sz) 0 0 (fr_ 59 a sz) := by
  refine ent_ (by decide) rfl (Nat.le_of_ble_eq_true rfl) ?_
  intro p e s m below meth c ls hsz X I hl
  subst hsz
  obtain ⟨hx, hb, hr, hml, hown, hts, hlk, hK, hA, hXf⟩ := id X
  refine va_gets hx hb (xC_cs hXf) I.2 hown (hts (.fieldLink RJ0 38 "java/lang/String" "COMPACT_STRINGS" "Z") (by decide +kernel)) (fun _ h => h) dJ0_coder_7d493_0 ?_
  refine lv_if_eq (tgt := 13) hx hb dJ0_coder_7d493_3 (by decide) (fun q => absurd q (by decide)) (fun _ => ?_)
  refine lv_aload_n hx hb dJ0_coder_7d493_6 rfl (lv_at hl 0 rfl) ?_
  refine vk_getf hx hb ((xC_st hXf).1 z hz).2.1 I.2 hown (hts (.fieldLink RJ0 15 "java/lang/String" "coder" "B") (by decide +kernel)) (fun _ h => h) dJ0_coder_7d493_7 ?_
  refine lv_goto (tgt := 14) hx hb dJ0_coder_7d493_10 (by decide) ?_
  exact rtz_ X I (by decide) dJ0_coder_7d493_14
set_option maxRecDepth 100000 in
theorem c_latin {l : Launch} {D : va_G} {cy : Nat → ClassId} {a gs : Nat → Nat} {σ : Sg} {z : Nat} (hz : z < 18) (sz : Nat) : Met l yJ0_isLatin1_aae02 wsJ0_isLatin1_aae02 ({ frames := 0, cells := 0, slots := 0, locals := 0 }) (va_Pc [.ref (gs (2 + z))] (pr_ 59 a D cy (shC cy a σ) (xfC gs) sz)) (qg_ 59 a D (shC cy a σ) (some (.int 1)) sz) 0 0 (fr_ 59 a sz) := by
  refine ent_ (by decide) rfl (Nat.le_of_ble_eq_true rfl) ?_
  intro p e s m below meth c ls hsz X I hl
  subst hsz
  obtain ⟨hx, hb, hr, hml, hown, hts, hlk, hK, hA, hXf⟩ := id X
  refine va_gets hx hb (xC_cs hXf) I.2 hown (hts (.fieldLink RJ0 38 "java/lang/String" "COMPACT_STRINGS" "Z") (by decide +kernel)) (fun _ h => h) dJ0_isLatin1_aae02_0 ?_
  refine lv_if_eq (tgt := 17) hx hb dJ0_isLatin1_aae02_3 (by decide) (fun q => absurd q (by decide)) (fun _ => ?_)
  refine lv_aload_n hx hb dJ0_isLatin1_aae02_6 rfl (lv_at hl 0 rfl) ?_
  refine vk_getf hx hb ((xC_st hXf).1 z hz).2.1 I.2 hown (hts (.fieldLink RJ0 15 "java/lang/String" "coder" "B") (by decide +kernel)) (fun _ h => h) dJ0_isLatin1_aae02_7 ?_
  refine lv_if_ne (tgt := 17) hx hb dJ0_isLatin1_aae02_10 (by decide) (fun q => absurd rfl q) (fun _ => ?_)
  refine lv_iconst (v := 1) hx hb dJ0_isLatin1_aae02_13 (by decide) ?_
  refine lv_goto (tgt := 18) hx hb dJ0_isLatin1_aae02_14 (by decide) ?_
  exact rtz_ X I (by decide) dJ0_isLatin1_aae02_18
set_option maxRecDepth 100000 in
theorem c_len {l : Launch} {D : va_G} {cy : Nat → ClassId} {a gs : Nat → Nat} {σ : Sg} {z : Nat} (hz : z < 18) (sz : Nat) : Met l yJ0_length_8abf5 wsJ0_length_8abf5 ({ frames := 1, cells := 0, slots := 0, locals := 20 }) (va_Pc [.ref (gs (2 + z))] (pr_ 59 a D cy (shC cy a σ) (xfC gs) sz)) (qg_ 59 a D (shC cy a σ) (some (.int (sln z))) sz) 0 0 (fr_ 59 a sz) := by
  refine ent_ (by decide) rfl (Nat.le_of_ble_eq_true rfl) ?_
  intro p e s m below meth c ls hsz X I hl
  subst hsz
  obtain ⟨hx, hb, hr, hml, hown, hts, hlk, hK, hA, hXf⟩ := id X
  refine lv_aload_n hx hb dJ0_length_8abf5_0 rfl (lv_at hl 0 rfl) ?_
  refine vk_getf hx hb ((xC_st hXf).1 z hz).2.2.1 I.2 hown (hts (.fieldLink RJ0 9 "java/lang/String" "value" "[B") (by decide +kernel)) (fun _ h => h) dJ0_length_8abf5_1 ?_
  refine va_tlen hx hb ((xC_st hXf).1 z hz).2.2.2 I.2 (v := sln z) rfl dJ0_length_8abf5_4 ?_
  refine lv_aload_n hx hb dJ0_length_8abf5_5 rfl (lv_at hl 0 rfl) ?_
  refine cg_ (rVs_ (nn := 0) (As := []) (rest := [.int (sln z)]) X I (c_coder hz _) gJ0_length_8abf5_J0_coder_7d493 rfl ⟨rfl, rfl⟩ (by decide +kernel) ⟨Nat.le_of_ble_eq_true rfl, Nat.le_of_ble_eq_true rfl⟩ hz rfl hl.1 rfl (Nat.le_of_ble_eq_true rfl) dJ0_length_8abf5_6) I (fun H locs I => ?_)
  refine lv_ishr hx hb dJ0_length_8abf5_9 ?_
  rw [sln_sh z hz]
  exact rti_ X I dJ0_length_8abf5_10
theorem c_pck {l : Launch} {x0 x1 : Int32} {v : Value} (hv : v = .null ∨ ∃ t, v = .ref t) (h0 : ¬ x0 < 0) (h1 : x0 < x1) : Met l yJ3_checkIndex_8e157 wsJ3_checkIndex_8e157 ({ frames := 0, cells := 0, slots := 0, locals := 0 }) (pp_ [.int x0, .int x1, v]) (qp_ (some (.int x0))) 0 0 (fun _ => False) := by
  rcases hv with rfl | ⟨t, rfl⟩
  · refine enp_ (by decide) rfl (Nat.le_of_ble_eq_true rfl) ?_
    intro p e s m below meth c ls X hl
    obtain ⟨hx, hb, hr, hml, hown, hts, hlk⟩ := id X
    refine lv_iload_n hx hb dJ3_checkIndex_8e157_0 rfl (lv_at hl 0 rfl) ?_
    refine lv_if_lt (tgt := 9) hx hb dJ3_checkIndex_8e157_1 (by decide) (fun q => absurd q h0) (fun _ => ?_)
    refine lv_iload_n hx hb dJ3_checkIndex_8e157_4 rfl (lv_at hl 0 rfl) ?_
    refine lv_iload_n hx hb dJ3_checkIndex_8e157_5 rfl (lv_at hl 1 rfl) ?_
    refine lv_icmp_lt (tgt := 16) hx hb dJ3_checkIndex_8e157_6 (by decide) (fun _ => ?_) (fun q => absurd h1 q)
    refine lv_iload_n hx hb dJ3_checkIndex_8e157_16 rfl (lv_at hl 0 rfl) ?_
    exact rpi_ X dJ3_checkIndex_8e157_17
  · refine enp_ (by decide) rfl (Nat.le_of_ble_eq_true rfl) ?_
    intro p e s m below meth c ls X hl
    obtain ⟨hx, hb, hr, hml, hown, hts, hlk⟩ := id X
    refine lv_iload_n hx hb dJ3_checkIndex_8e157_0 rfl (lv_at hl 0 rfl) ?_
    refine lv_if_lt (tgt := 9) hx hb dJ3_checkIndex_8e157_1 (by decide) (fun q => absurd q h0) (fun _ => ?_)
    refine lv_iload_n hx hb dJ3_checkIndex_8e157_4 rfl (lv_at hl 0 rfl) ?_
    refine lv_iload_n hx hb dJ3_checkIndex_8e157_5 rfl (lv_at hl 1 rfl) ?_
    refine lv_icmp_lt (tgt := 16) hx hb dJ3_checkIndex_8e157_6 (by decide) (fun _ => ?_) (fun q => absurd h1 q)
    refine lv_iload_n hx hb dJ3_checkIndex_8e157_16 rfl (lv_at hl 0 rfl) ?_
    exact rpi_ X dJ3_checkIndex_8e157_17
set_option maxRecDepth 100000 in
theorem c_sck {l : Launch} {D : va_G} {cy : Nat → ClassId} {a gs : Nat → Nat} {σ : Sg} {x0 x1 : Int32} (h0 : ¬ x0 < 0) (h1 : x0 < x1) (sz : Nat) : Met l yJ0_checkIndex_df160 wsJ0_checkIndex_df160 ({ frames := 1, cells := 0, slots := 0, locals := 22 }) (va_Pc [.int x0, .int x1] (pr_ 59 a D cy (shC cy a σ) (xfC gs) sz)) (qg_ 59 a D (shC cy a σ) none sz) 0 0 (fr_ 59 a sz) := by
  refine ent_ (by decide) rfl (Nat.le_of_ble_eq_true rfl) ?_
  intro p e s m below meth c ls hsz X I hl
  subst hsz
  obtain ⟨hx, hb, hr, hml, hown, hts, hlk, hK, hA, hXf⟩ := id X
  refine lv_iload_n hx hb dJ0_checkIndex_df160_0 rfl (lv_at hl 0 rfl) ?_
  refine lv_iload_n hx hb dJ0_checkIndex_df160_1 rfl (lv_at hl 1 rfl) ?_
  rcases xC_fm hXf with hq | ⟨t, hq⟩
  · refine va_gets hx hb hq I.2 hown (hts (.fieldLink RJ0 1053 "jdk/internal/util/Preconditions" "SIOOBE_FORMATTER" "Ljava/util/function/BiFunction;") (by decide +kernel)) (fun _ h => h) dJ0_checkIndex_df160_2 ?_
    refine cp_ (rP_ (nn := 3) (As := [.int x0, .int x1, .null]) (rest := []) ⟨hx, hb, hml, hown, hts⟩ (c_pck (Or.inl rfl) h0 h1) gJ0_checkIndex_df160_J3_checkIndex_8e157 rfl ⟨rfl, rfl⟩ (by decide +kernel) ⟨Nat.le_of_ble_eq_true rfl, Nat.le_of_ble_eq_true rfl⟩ rfl hl.1 rfl (Nat.le_of_ble_eq_true rfl) dJ0_checkIndex_df160_5 ⟨Nat.zero_le _, Nat.zero_le _⟩) ?_
    refine lv_pop hx hb dJ0_checkIndex_df160_8 rfl ?_
    exact rtv_ X I dJ0_checkIndex_df160_9
  · refine va_gets hx hb hq I.2 hown (hts (.fieldLink RJ0 1053 "jdk/internal/util/Preconditions" "SIOOBE_FORMATTER" "Ljava/util/function/BiFunction;") (by decide +kernel)) (fun _ h => h) dJ0_checkIndex_df160_2 ?_
    refine cp_ (rP_ (nn := 3) (As := [.int x0, .int x1, .ref t]) (rest := []) ⟨hx, hb, hml, hown, hts⟩ (c_pck (Or.inr ⟨_, rfl⟩) h0 h1) gJ0_checkIndex_df160_J3_checkIndex_8e157 rfl ⟨rfl, rfl⟩ (by decide +kernel) ⟨Nat.le_of_ble_eq_true rfl, Nat.le_of_ble_eq_true rfl⟩ rfl hl.1 rfl (Nat.le_of_ble_eq_true rfl) dJ0_checkIndex_df160_5 ⟨Nat.zero_le _, Nat.zero_le _⟩) ?_
    refine lv_pop hx hb dJ0_checkIndex_df160_8 rfl ?_
    exact rtv_ X I dJ0_checkIndex_df160_9
set_option maxRecDepth 100000 in
theorem c_lat1 {l : Launch} {D : va_G} {cy : Nat → ClassId} {a gs : Nat → Nat} {σ : Sg} {z : Nat} {i : Int32} (hz : z < 18) (hi : vp_in i (lenS.getD z 0)) (sz : Nat) : Met l yJ1_charAt_3b067 wsJ1_charAt_3b067 ({ frames := 2, cells := 0, slots := 0, locals := 43 }) (va_Pc [.ref (gs (20 + z)), .int i] (pr_ 59 a D cy (shC cy a σ) (xfC gs) sz)) (qg_ 59 a D (shC cy a σ) (some (.int (sch z i.toNatClampNeg))) sz) 0 0 (fr_ 59 a sz) := by
  have hlt : i.toNatClampNeg < lenS.getD z 0 := Nat.not_le.mp fun q => hi (Or.inr q)
  have h0 : ¬ i < 0 := fun q => hi (Or.inl q)
  have h1 : i < Int32.ofNat (lenS.getD z 0) := by
    obtain ⟨j, hj, rfl⟩ := vp_in_of hi (by have := lenS_small z hz; omega)
    exact nI_lt hj (by have := lenS_small z hz; omega)
  refine ent_ (by decide) rfl (Nat.le_of_ble_eq_true rfl) ?_
  intro p e s m below meth c ls hsz X I hl
  subst hsz
  obtain ⟨hx, hb, hr, hml, hown, hts, hlk, hK, hA, hXf⟩ := id X
  refine lv_iload_n hx hb dJ1_charAt_3b067_0 rfl (lv_at hl 1 rfl) ?_
  refine lv_aload_n hx hb dJ1_charAt_3b067_1 rfl (lv_at hl 0 rfl) ?_
  refine va_tlen hx hb ((xC_st hXf).1 z hz).2.2.2 I.2 (v := Int32.ofNat (lenS.getD z 0)) rfl dJ1_charAt_3b067_2 ?_
  refine cv_ (rS_ (nn := 2) (As := [.int i, .int (Int32.ofNat (lenS.getD z 0))]) (rest := []) X xkC I (c_sck h0 h1 _) gJ1_charAt_3b067_J0_checkIndex_df160 rfl ⟨rfl, rfl⟩ (by decide +kernel) ⟨Nat.le_of_ble_eq_true rfl, Nat.le_of_ble_eq_true rfl⟩ rfl hl.1 rfl (Nat.le_of_ble_eq_true rfl) dJ1_charAt_3b067_3) I (fun H locs I => ?_)
  refine lv_aload_n hx hb dJ1_charAt_3b067_6 rfl (lv_at hl 0 rfl) ?_
  refine lv_iload_n hx hb dJ1_charAt_3b067_7 rfl (lv_at hl 1 rfl) ?_
  refine va_tb hx hb ((xC_st hXf).1 z hz).2.2.2 I.2 hi (v := .int ((bytS.getD z []).getD i.toNatClampNeg 0)) rfl dJ1_charAt_3b067_8 ?_
  refine lv_sipush (v := 255) hx hb dJ1_charAt_3b067_9 (by decide) ?_
  refine lv_iand hx hb dJ1_charAt_3b067_12 ?_
  refine lv_i2c hx hb dJ1_charAt_3b067_13 rfl ?_
  have hn := pk_nc (((bytS.getD z []).getD i.toNatClampNeg 0) &&& (255 : Int32))
  rw [sch_raw z hz _ hlt] at hn
  rw [sch_raw z hz _ hlt]
  exact rtz_ X I hn dJ1_charAt_3b067_14
set_option maxRecDepth 100000 in
theorem c_chr {l : Launch} {D : va_G} {cy : Nat → ClassId} {a gs : Nat → Nat} {σ : Sg} {z : Nat} {i : Int32} (hz : z < 18) (hi : vp_in i (lenS.getD z 0)) (sz : Nat) : Met l yJ0_charAt_5068e wsJ0_charAt_5068e ({ frames := 3, cells := 0, slots := 0, locals := 64 }) (va_Pc [.ref (gs (2 + z)), .int i] (pr_ 59 a D cy (shC cy a σ) (xfC gs) sz)) (qg_ 59 a D (shC cy a σ) (some (.int (sch z i.toNatClampNeg))) sz) 0 0 (fr_ 59 a sz) := by
  have hlt : i.toNatClampNeg < lenS.getD z 0 := Nat.not_le.mp fun q => hi (Or.inr q)
  refine ent_ (by decide) rfl (Nat.le_of_ble_eq_true rfl) ?_
  intro p e s m below meth c ls hsz X I hl
  subst hsz
  obtain ⟨hx, hb, hr, hml, hown, hts, hlk, hK, hA, hXf⟩ := id X
  refine lv_aload_n hx hb dJ0_charAt_5068e_0 rfl (lv_at hl 0 rfl) ?_
  refine cg_ (rVs_ (nn := 0) (As := []) (rest := []) X I (c_latin hz _) gJ0_charAt_5068e_J0_isLatin1_aae02 rfl ⟨rfl, rfl⟩ (by decide +kernel) ⟨Nat.le_of_ble_eq_true rfl, Nat.le_of_ble_eq_true rfl⟩ hz rfl hl.1 rfl (Nat.le_of_ble_eq_true rfl) dJ0_charAt_5068e_1) I (fun H locs I => ?_)
  refine lv_if_eq (tgt := 16) hx hb dJ0_charAt_5068e_4 (by decide) (fun q => absurd q (by decide)) (fun _ => ?_)
  refine lv_aload_n hx hb dJ0_charAt_5068e_7 rfl (lv_at hl 0 rfl) ?_
  refine vk_getf hx hb ((xC_st hXf).1 z hz).2.2.1 I.2 hown (hts (.fieldLink RJ0 9 "java/lang/String" "value" "[B") (by decide +kernel)) (fun _ h => h) dJ0_charAt_5068e_8 ?_
  refine lv_iload_n hx hb dJ0_charAt_5068e_11 rfl (lv_at hl 1 rfl) ?_
  refine cg_ (rS_ (nn := 2) (As := [.ref (gs (20 + z)), .int i]) (rest := []) X xkC I (c_lat1 hz hi _) gJ0_charAt_5068e_J1_charAt_3b067 rfl ⟨rfl, rfl⟩ (by decide +kernel) ⟨Nat.le_of_ble_eq_true rfl, Nat.le_of_ble_eq_true rfl⟩ rfl hl.1 rfl (Nat.le_of_ble_eq_true rfl) dJ0_charAt_5068e_12) I (fun H locs I => ?_)
  have hn := pk_nc (((bytS.getD z []).getD i.toNatClampNeg 0) &&& (255 : Int32))
  rw [sch_raw z hz _ hlt] at hn
  exact rtz_ X I hn dJ0_charAt_5068e_15
def ck_ (z : Nat) (i : Int32) : Bool := in_ i (lenS.getD z 0)
