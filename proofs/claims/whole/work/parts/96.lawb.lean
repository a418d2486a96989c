/-! the law: what a turn of its loop stands on -/
def wsLB : List Cond := wsL_law ++ wB_X11_act
theorem gLB {ws : List Cond} (h : GoodIn wsL_law ws) : GoodIn wsLB ws := fun w hw => ⟨List.mem_append_left _ (h w hw).1, (h w hw).2⟩
theorem wsLB_in : ∀ w ∈ wsLB, w ∈ lw_tbl := by
  refine inL_ap wsL_law_in (fun w h => ?_)
  rcases List.mem_cons.mp h with rfl | h
  · exact wsL_law_in _ (ggL_law_X11_act _ (List.mem_cons_self)).1
  · exact inL_ap in_wBX (fun w h => wsL_law_in _ (ggL_law_X11_act w h).1) w h
theorem gLB_act : GoodIn wsLB (wsV RL 183 RX11 yX11_act wB_X11_act) := by
  refine goodIn_app (fun w h => ?_) (goodIn_sub (fun w h => List.mem_append_right _ h) ?_)
  · exact gLB gL_law_X11_act w (List.mem_append_left _ h)
  · show (goodWord _ && wBIG.all goodWord) = true
    rw [gBB]; rfl
def lawX (gs : Nat → Nat) (b : Nat) (D : va_G) (cy : Nat → ClassId) (p : Program) (s : State) (m : MethodId) (meth : Method) (c : Code) : Prop := kx_ cL_law RL wsLB 4 (fun q => s.heap.size ≤ q) D cy (xg_ gs) p s m #[Value.ref b] meth c
def lawV (aC aM : Nat → Nat) (D : va_G) (cy : Nat → ClassId) (s : State) (H : Heap) (locs : List Loc) (σc σm : Sg) : Prop := iW_ (fun q => s.heap.size ≤ q) D (gW 59 aC (shC cy aC σc)) s H locs ∧ iW_ (fun q => s.heap.size ≤ q) D (gW 16 aM (shM cy aM σm)) s H locs ∧ (∀ i j, i < 59 → j < 16 → ¬ aC i = aM j) ∧ R σc σm
def lawP (b L i : Nat) (xs : Nat → Int32) (s : State) : Prop := va_X b L xs s s.heap ∧ b < s.heap.size ∧ i + 5 ≤ L ∧ L ≤ 2560
section LAWB
variable {p : Program} {l : Launch} {e : Env} {R0 : Room} {s : State} {m : MethodId} {args : Array Value} {below : List Frame} {meth : Method} {c : Code} {H H1 : Heap} {locs locs1 : List Loc} {Q : State → Prop} {A : Nat → Prop} {D : va_G} {cells slots n n1 pc : Nat} {a a1 : Nat → Nat} {w w1 : Nat → va_E} {ls : Array Slot} {rest : List Value}
theorem keepW (I : iW_ A D (gW n a w) s H locs) (I1 : iW_ A D (gW n1 a1 w1) s H1 locs1) (hk : ∀ q : Nat, q < H.size → ¬ fr_ n1 a1 H.size q → H1[q]? = H[q]?) (hne : ∀ i j, i < n → j < n1 → ¬ a i = a1 j) : iW_ A D (gW n a w) s H1 locs1 := by
  refine ⟨I.1.kept (fun k q hq => ?_), I.2.1, I1.2.2⟩
  have hlt := (I.1 k q hq).lt
  obtain ⟨h1, rfl⟩ := gW_inv hq
  refine hk _ hlt ?_
  rintro (⟨j, hj, h⟩ | h)
  · exact hne k j h1 hj h
  · exact absurd hlt (by omega)
theorem arg_ {b L i k : Nat} {kI : Int} {xs : Nat → Int32} {v1 v2 : Value} (hx : p.tables.exec = Jvm.exec) (hb : c.code = cL_law) (S : lawP b L i xs s) (hS : va_S (fun q => s.heap.size ≤ q) s.heap H locs) (hl : lv_has ls 4 [(0, .ref b), (1, v1), (2, v2), (3, .int (nI i))]) (hk : k ≤ 4) (d1 : decode cL_law pc = .ok (.aload_n 0, 1)) (d2 : decode cL_law (pc + 1) = .ok (.iload_n 3, 1)) (d3 : decode cL_law (pc + 1 + 1) = .ok (.iconst kI, 1)) (hkI : Int32.ofInt kI = nI k) (d4 : decode cL_law (pc + 1 + 1 + 1) = .ok (.iadd, 1)) (d5 : decode cL_law (pc + 1 + 1 + 1 + 1) = .ok (.iaload, 1))
    (kk : W p l e R0 s m args below meth c H locs cells slots Q (F0 m (pc + 1 + 1 + 1 + 1 + 1) ls (.int (xs (i + k)) :: rest))) : W p l e R0 s m args below meth c H locs cells slots Q (F0 m pc ls rest) := by
  obtain ⟨hX, hbl, hi, hL⟩ := S
  refine lv_aload_n hx hb d1 rfl (lv_at hl 0 rfl) ?_
  refine lv_iload_n hx hb d2 rfl (lv_at hl 3 rfl) ?_
  refine lv_iconst (v := nI k) hx hb d3 hkI ?_
  refine lv_iadd hx hb d4 ?_
  rw [nI_add]
  refine va_sld hx hb hX hbl (Nat.not_le.mpr hbl) hS (nI_in (show i + k < L by omega) (by omega)) d5 ?_
  rw [nI_clamp (by omega)]
  exact kk
end LAWB
