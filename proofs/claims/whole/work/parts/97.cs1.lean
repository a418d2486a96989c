/-! turns of the law -/
section LAWC
variable {p : Program} {l : Launch} {e : Env} {s : State} {m : MethodId} {below : List Frame} {meth : Method} {c : Code} {H : Heap} {locs : List Loc} {Q : State → Prop} {D : va_G} {cy : Nat → ClassId} {gs aC aM : Nat → Nat} {b L i : Nat} {xs : Nat → Int32} {ls : Array Slot} {σc σm : Sg}
theorem cs_23 (X : lawX gs b D cy p s m meth c) (V : lawV aC aM D cy s H locs σc σm) (S : lawP b L i xs s) (hl : lv_has ls 4 [(0, .ref b), (1, .ref (aC 0)), (2, .ref (aM 0)), (3, .int (nI i))]) (kk : ∀ (σc σm : Sg) (H : Heap) (locs : List Loc), lawV aC aM D cy s H locs σc σm → W p l e room_1 s m #[Value.ref b] below meth c H locs 75 2073 Q (F0 m 1675 ls [])) : W p l e room_1 s m #[Value.ref b] below meth c H locs 75 2073 Q (F0 m 937 ls []) := by
  obtain ⟨hx, hb, hml, hown, hts, hK, hA, hXf⟩ := id X
  obtain ⟨IC, IM, hne, hR⟩ := V
  obtain ⟨r, τc, τm, e1, e2, hR1⟩ := eq_kindFor hR (xs (i + 1)) (xs (i + 2))
  refine lv_aload_n hx hb dL_law_937 rfl (lv_at hl 1 rfl) ?_
  refine arg_ (k := 1) hx hb S IC.2.2 hl (by omega) dL_law_938 dL_law_939 dL_law_940 (by decide) dL_law_941 dL_law_942 ?_
  refine arg_ (k := 2) hx hb S IC.2.2 hl (by omega) dL_law_943 dL_law_944 dL_law_945 (by decide) dL_law_946 dL_law_947 ?_
  refine cG_ (k := 0) (nn := 2) (Xf2 := xfC gs) (rest := []) X xkC hXf.1 IC (c_C_kindFor e1 _) (gLB gL_law_X11_kindFor) rfl ⟨rfl, rfl⟩ (by decide +kernel) ⟨Nat.le_of_ble_eq_true rfl, Nat.le_of_ble_eq_true rfl⟩ (by decide) shC_0 rfl rfl hl.1 rfl (Nat.le_of_ble_eq_true rfl) dL_law_948 ⟨Nat.le_of_ble_eq_true rfl, Nat.le_of_ble_eq_true rfl⟩ (fun H1 locs1 IC1 hk1 => ?_)
  have IM := keepW IM IC1 hk1 (fun i j hi hj q => hne j i hj hi q.symm)
  clear hk1
  have IC := IC1
  refine lv_aload_n hx hb dL_law_951 rfl (lv_at hl 2 rfl) ?_
  refine arg_ (k := 1) hx hb S IM.2.2 hl (by omega) dL_law_952 dL_law_953 dL_law_954 (by decide) dL_law_955 dL_law_956 ?_
  refine arg_ (k := 2) hx hb S IM.2.2 hl (by omega) dL_law_957 dL_law_958 dL_law_959 (by decide) dL_law_960 dL_law_961 ?_
  refine cG_ (k := 0) (nn := 2) (Xf2 := xfM) (rest := [.int r]) X xkM trivial IM (c_M_kindFor e2 _) (gLB gL_law_X12_kindFor) rfl ⟨rfl, rfl⟩ (by decide +kernel) ⟨Nat.le_of_ble_eq_true rfl, Nat.le_of_ble_eq_true rfl⟩ (by decide) shM_0 rfl rfl hl.1 rfl (Nat.le_of_ble_eq_true rfl) dL_law_962 ⟨Nat.le_of_ble_eq_true rfl, Nat.le_of_ble_eq_true rfl⟩ (fun H2 locs2 IM2 hk2 => ?_)
  have IC := keepW IC IM2 hk2 hne
  refine lv_icmp_eq (tgt := 1675) hx hb dL_law_965 (by decide) (fun _ => ?_) (fun q => absurd rfl q)
  exact kk τc τm _ _ ⟨IC, IM2, hne, hR1⟩
theorem cs_24 (X : lawX gs b D cy p s m meth c) (V : lawV aC aM D cy s H locs σc σm) (S : lawP b L i xs s) (hl : lv_has ls 4 [(0, .ref b), (1, .ref (aC 0)), (2, .ref (aM 0)), (3, .int (nI i))]) (kk : ∀ (σc σm : Sg) (H : Heap) (locs : List Loc), lawV aC aM D cy s H locs σc σm → W p l e room_1 s m #[Value.ref b] below meth c H locs 75 2073 Q (F0 m 1675 ls [])) : W p l e room_1 s m #[Value.ref b] below meth c H locs 75 2073 Q (F0 m 970 ls []) := by
  obtain ⟨hx, hb, hml, hown, hts, hK, hA, hXf⟩ := id X
  obtain ⟨IC, IM, hne, hR⟩ := V
  obtain ⟨r, τc, τm, e1, e2, hR1⟩ := eq_fireFor hR (xs (i + 1)) (xs (i + 2))
  refine lv_aload_n hx hb dL_law_970 rfl (lv_at hl 1 rfl) ?_
  refine arg_ (k := 1) hx hb S IC.2.2 hl (by omega) dL_law_971 dL_law_972 dL_law_973 (by decide) dL_law_974 dL_law_975 ?_
  refine arg_ (k := 2) hx hb S IC.2.2 hl (by omega) dL_law_976 dL_law_977 dL_law_978 (by decide) dL_law_979 dL_law_980 ?_
  refine cG_ (k := 0) (nn := 2) (Xf2 := xfC gs) (rest := []) X xkC hXf.1 IC (c_C_fireFor e1 _) (gLB gL_law_X11_fireFor) rfl ⟨rfl, rfl⟩ (by decide +kernel) ⟨Nat.le_of_ble_eq_true rfl, Nat.le_of_ble_eq_true rfl⟩ (by decide) shC_0 rfl rfl hl.1 rfl (Nat.le_of_ble_eq_true rfl) dL_law_981 ⟨Nat.le_of_ble_eq_true rfl, Nat.le_of_ble_eq_true rfl⟩ (fun H1 locs1 IC1 hk1 => ?_)
  have IM := keepW IM IC1 hk1 (fun i j hi hj q => hne j i hj hi q.symm)
  clear hk1
  have IC := IC1
  refine lv_aload_n hx hb dL_law_984 rfl (lv_at hl 2 rfl) ?_
  refine arg_ (k := 1) hx hb S IM.2.2 hl (by omega) dL_law_985 dL_law_986 dL_law_987 (by decide) dL_law_988 dL_law_989 ?_
  refine arg_ (k := 2) hx hb S IM.2.2 hl (by omega) dL_law_990 dL_law_991 dL_law_992 (by decide) dL_law_993 dL_law_994 ?_
  refine cG_ (k := 0) (nn := 2) (Xf2 := xfM) (rest := [.int r]) X xkM trivial IM (c_M_fireFor e2 _) (gLB gL_law_X12_fireFor) rfl ⟨rfl, rfl⟩ (by decide +kernel) ⟨Nat.le_of_ble_eq_true rfl, Nat.le_of_ble_eq_true rfl⟩ (by decide) shM_0 rfl rfl hl.1 rfl (Nat.le_of_ble_eq_true rfl) dL_law_995 ⟨Nat.le_of_ble_eq_true rfl, Nat.le_of_ble_eq_true rfl⟩ (fun H2 locs2 IM2 hk2 => ?_)
  have IC := keepW IC IM2 hk2 hne
  refine lv_icmp_eq (tgt := 1675) hx hb dL_law_998 (by decide) (fun _ => ?_) (fun q => absurd rfl q)
  exact kk τc τm _ _ ⟨IC, IM2, hne, hR1⟩
theorem cs_25 (X : lawX gs b D cy p s m meth c) (V : lawV aC aM D cy s H locs σc σm) (S : lawP b L i xs s) (hl : lv_has ls 4 [(0, .ref b), (1, .ref (aC 0)), (2, .ref (aM 0)), (3, .int (nI i))]) (kk : ∀ (σc σm : Sg) (H : Heap) (locs : List Loc), lawV aC aM D cy s H locs σc σm → W p l e room_1 s m #[Value.ref b] below meth c H locs 75 2073 Q (F0 m 1675 ls [])) : W p l e room_1 s m #[Value.ref b] below meth c H locs 75 2073 Q (F0 m 1003 ls []) := by
  obtain ⟨hx, hb, hml, hown, hts, hK, hA, hXf⟩ := id X
  obtain ⟨IC, IM, hne, hR⟩ := V
  obtain ⟨r, τc, τm, e1, e2, hR1⟩ := eq_best hR (xs (i + 1))
  refine lv_aload_n hx hb dL_law_1003 rfl (lv_at hl 1 rfl) ?_
  refine arg_ (k := 1) hx hb S IC.2.2 hl (by omega) dL_law_1004 dL_law_1005 dL_law_1006 (by decide) dL_law_1007 dL_law_1008 ?_
  refine cG_ (k := 0) (nn := 1) (Xf2 := xfC gs) (rest := []) X xkC hXf.1 IC (c_C_best e1 _) (gLB gL_law_X11_best) rfl ⟨rfl, rfl⟩ (by decide +kernel) ⟨Nat.le_of_ble_eq_true rfl, Nat.le_of_ble_eq_true rfl⟩ (by decide) shC_0 rfl rfl hl.1 rfl (Nat.le_of_ble_eq_true rfl) dL_law_1009 ⟨Nat.le_of_ble_eq_true rfl, Nat.le_of_ble_eq_true rfl⟩ (fun H1 locs1 IC1 hk1 => ?_)
  have IM := keepW IM IC1 hk1 (fun i j hi hj q => hne j i hj hi q.symm)
  clear hk1
  have IC := IC1
  refine lv_aload_n hx hb dL_law_1012 rfl (lv_at hl 2 rfl) ?_
  refine arg_ (k := 1) hx hb S IM.2.2 hl (by omega) dL_law_1013 dL_law_1014 dL_law_1015 (by decide) dL_law_1016 dL_law_1017 ?_
  refine cG_ (k := 0) (nn := 1) (Xf2 := xfM) (rest := [.int r]) X xkM trivial IM (c_M_best e2 _) (gLB gL_law_X12_best) rfl ⟨rfl, rfl⟩ (by decide +kernel) ⟨Nat.le_of_ble_eq_true rfl, Nat.le_of_ble_eq_true rfl⟩ (by decide) shM_0 rfl rfl hl.1 rfl (Nat.le_of_ble_eq_true rfl) dL_law_1018 ⟨Nat.le_of_ble_eq_true rfl, Nat.le_of_ble_eq_true rfl⟩ (fun H2 locs2 IM2 hk2 => ?_)
  have IC := keepW IC IM2 hk2 hne
  refine lv_icmp_eq (tgt := 1675) hx hb dL_law_1021 (by decide) (fun _ => ?_) (fun q => absurd rfl q)
  exact kk τc τm _ _ ⟨IC, IM2, hne, hR1⟩
theorem cs_26 (X : lawX gs b D cy p s m meth c) (V : lawV aC aM D cy s H locs σc σm) (S : lawP b L i xs s) (hl : lv_has ls 4 [(0, .ref b), (1, .ref (aC 0)), (2, .ref (aM 0)), (3, .int (nI i))]) (kk : ∀ (σc σm : Sg) (H : Heap) (locs : List Loc), lawV aC aM D cy s H locs σc σm → W p l e room_1 s m #[Value.ref b] below meth c H locs 75 2073 Q (F0 m 1675 ls [])) : W p l e room_1 s m #[Value.ref b] below meth c H locs 75 2073 Q (F0 m 1026 ls []) := by
  obtain ⟨hx, hb, hml, hown, hts, hK, hA, hXf⟩ := id X
  obtain ⟨IC, IM, hne, hR⟩ := V
  obtain ⟨r, τc, τm, e1, e2, hR1⟩ := eq_enough hR (xs (i + 1))
  refine lv_aload_n hx hb dL_law_1026 rfl (lv_at hl 1 rfl) ?_
  refine arg_ (k := 1) hx hb S IC.2.2 hl (by omega) dL_law_1027 dL_law_1028 dL_law_1029 (by decide) dL_law_1030 dL_law_1031 ?_
  refine cG_ (k := 0) (nn := 1) (Xf2 := xfC gs) (rest := []) X xkC hXf.1 IC (c_C_enough e1 _) (gLB gL_law_X11_enough) rfl ⟨rfl, rfl⟩ (by decide +kernel) ⟨Nat.le_of_ble_eq_true rfl, Nat.le_of_ble_eq_true rfl⟩ (by decide) shC_0 rfl rfl hl.1 rfl (Nat.le_of_ble_eq_true rfl) dL_law_1032 ⟨Nat.le_of_ble_eq_true rfl, Nat.le_of_ble_eq_true rfl⟩ (fun H1 locs1 IC1 hk1 => ?_)
  have IM := keepW IM IC1 hk1 (fun i j hi hj q => hne j i hj hi q.symm)
  clear hk1
  have IC := IC1
  refine lv_aload_n hx hb dL_law_1035 rfl (lv_at hl 2 rfl) ?_
  refine arg_ (k := 1) hx hb S IM.2.2 hl (by omega) dL_law_1036 dL_law_1037 dL_law_1038 (by decide) dL_law_1039 dL_law_1040 ?_
  refine cG_ (k := 0) (nn := 1) (Xf2 := xfM) (rest := [.int r]) X xkM trivial IM (c_M_enough e2 _) (gLB gL_law_X12_enough) rfl ⟨rfl, rfl⟩ (by decide +kernel) ⟨Nat.le_of_ble_eq_true rfl, Nat.le_of_ble_eq_true rfl⟩ (by decide) shM_0 rfl rfl hl.1 rfl (Nat.le_of_ble_eq_true rfl) dL_law_1041 ⟨Nat.le_of_ble_eq_true rfl, Nat.le_of_ble_eq_true rfl⟩ (fun H2 locs2 IM2 hk2 => ?_)
  have IC := keepW IC IM2 hk2 hne
  refine lv_icmp_eq (tgt := 1675) hx hb dL_law_1044 (by decide) (fun _ => ?_) (fun q => absurd rfl q)
  exact kk τc τm _ _ ⟨IC, IM2, hne, hR1⟩
theorem cs_27 (X : lawX gs b D cy p s m meth c) (V : lawV aC aM D cy s H locs σc σm) (S : lawP b L i xs s) (hl : lv_has ls 4 [(0, .ref b), (1, .ref (aC 0)), (2, .ref (aM 0)), (3, .int (nI i))]) (kk : ∀ (σc σm : Sg) (H : Heap) (locs : List Loc), lawV aC aM D cy s H locs σc σm → W p l e room_1 s m #[Value.ref b] below meth c H locs 75 2073 Q (F0 m 1675 ls [])) : W p l e room_1 s m #[Value.ref b] below meth c H locs 75 2073 Q (F0 m 1049 ls []) := by
  obtain ⟨hx, hb, hml, hown, hts, hK, hA, hXf⟩ := id X
  obtain ⟨IC, IM, hne, hR⟩ := V
  obtain ⟨r, τc, τm, e1, e2, hR1⟩ := eq_fits hR (xs (i + 1)) (xs (i + 2)) (xs (i + 3))
  refine lv_aload_n hx hb dL_law_1049 rfl (lv_at hl 1 rfl) ?_
  refine arg_ (k := 1) hx hb S IC.2.2 hl (by omega) dL_law_1050 dL_law_1051 dL_law_1052 (by decide) dL_law_1053 dL_law_1054 ?_
  refine arg_ (k := 2) hx hb S IC.2.2 hl (by omega) dL_law_1055 dL_law_1056 dL_law_1057 (by decide) dL_law_1058 dL_law_1059 ?_
  refine arg_ (k := 3) hx hb S IC.2.2 hl (by omega) dL_law_1060 dL_law_1061 dL_law_1062 (by decide) dL_law_1063 dL_law_1064 ?_
  refine cG_ (k := 0) (nn := 3) (Xf2 := xfC gs) (rest := []) X xkC hXf.1 IC (c_C_fits e1 _) (gLB gL_law_X11_fits) rfl ⟨rfl, rfl⟩ (by decide +kernel) ⟨Nat.le_of_ble_eq_true rfl, Nat.le_of_ble_eq_true rfl⟩ (by decide) shC_0 rfl rfl hl.1 rfl (Nat.le_of_ble_eq_true rfl) dL_law_1065 ⟨Nat.le_of_ble_eq_true rfl, Nat.le_of_ble_eq_true rfl⟩ (fun H1 locs1 IC1 hk1 => ?_)
  have IM := keepW IM IC1 hk1 (fun i j hi hj q => hne j i hj hi q.symm)
  clear hk1
  have IC := IC1
  refine lv_aload_n hx hb dL_law_1068 rfl (lv_at hl 2 rfl) ?_
  refine arg_ (k := 1) hx hb S IM.2.2 hl (by omega) dL_law_1069 dL_law_1070 dL_law_1071 (by decide) dL_law_1072 dL_law_1073 ?_
  refine arg_ (k := 2) hx hb S IM.2.2 hl (by omega) dL_law_1074 dL_law_1075 dL_law_1076 (by decide) dL_law_1077 dL_law_1078 ?_
  refine arg_ (k := 3) hx hb S IM.2.2 hl (by omega) dL_law_1079 dL_law_1080 dL_law_1081 (by decide) dL_law_1082 dL_law_1083 ?_
  refine cG_ (k := 0) (nn := 3) (Xf2 := xfM) (rest := [.int r]) X xkM trivial IM (c_M_fits e2 _) (gLB gL_law_X12_fits) rfl ⟨rfl, rfl⟩ (by decide +kernel) ⟨Nat.le_of_ble_eq_true rfl, Nat.le_of_ble_eq_true rfl⟩ (by decide) shM_0 rfl rfl hl.1 rfl (Nat.le_of_ble_eq_true rfl) dL_law_1084 ⟨Nat.le_of_ble_eq_true rfl, Nat.le_of_ble_eq_true rfl⟩ (fun H2 locs2 IM2 hk2 => ?_)
  have IC := keepW IC IM2 hk2 hne
  refine lv_icmp_eq (tgt := 1675) hx hb dL_law_1087 (by decide) (fun _ => ?_) (fun q => absurd rfl q)
  exact kk τc τm _ _ ⟨IC, IM2, hne, hR1⟩
theorem cs_28 (X : lawX gs b D cy p s m meth c) (V : lawV aC aM D cy s H locs σc σm) (S : lawP b L i xs s) (hl : lv_has ls 4 [(0, .ref b), (1, .ref (aC 0)), (2, .ref (aM 0)), (3, .int (nI i))]) (kk : ∀ (σc σm : Sg) (H : Heap) (locs : List Loc), lawV aC aM D cy s H locs σc σm → W p l e room_1 s m #[Value.ref b] below meth c H locs 75 2073 Q (F0 m 1675 ls [])) : W p l e room_1 s m #[Value.ref b] below meth c H locs 75 2073 Q (F0 m 1092 ls []) := by
  obtain ⟨hx, hb, hml, hown, hts, hK, hA, hXf⟩ := id X
  obtain ⟨IC, IM, hne, hR⟩ := V
  obtain ⟨r, τc, τm, e1, e2, hR1⟩ := eq_odds hR (xs (i + 1)) (xs (i + 2)) (xs (i + 3))
  refine lv_aload_n hx hb dL_law_1092 rfl (lv_at hl 1 rfl) ?_
  refine arg_ (k := 1) hx hb S IC.2.2 hl (by omega) dL_law_1093 dL_law_1094 dL_law_1095 (by decide) dL_law_1096 dL_law_1097 ?_
  refine arg_ (k := 2) hx hb S IC.2.2 hl (by omega) dL_law_1098 dL_law_1099 dL_law_1100 (by decide) dL_law_1101 dL_law_1102 ?_
  refine arg_ (k := 3) hx hb S IC.2.2 hl (by omega) dL_law_1103 dL_law_1104 dL_law_1105 (by decide) dL_law_1106 dL_law_1107 ?_
  refine cG_ (k := 0) (nn := 3) (Xf2 := xfC gs) (rest := []) X xkC hXf.1 IC (c_C_odds e1 _) (gLB gL_law_X11_odds) rfl ⟨rfl, rfl⟩ (by decide +kernel) ⟨Nat.le_of_ble_eq_true rfl, Nat.le_of_ble_eq_true rfl⟩ (by decide) shC_0 rfl rfl hl.1 rfl (Nat.le_of_ble_eq_true rfl) dL_law_1108 ⟨Nat.le_of_ble_eq_true rfl, Nat.le_of_ble_eq_true rfl⟩ (fun H1 locs1 IC1 hk1 => ?_)
  have IM := keepW IM IC1 hk1 (fun i j hi hj q => hne j i hj hi q.symm)
  clear hk1
  have IC := IC1
  refine lv_aload_n hx hb dL_law_1111 rfl (lv_at hl 2 rfl) ?_
  refine arg_ (k := 1) hx hb S IM.2.2 hl (by omega) dL_law_1112 dL_law_1113 dL_law_1114 (by decide) dL_law_1115 dL_law_1116 ?_
  refine arg_ (k := 2) hx hb S IM.2.2 hl (by omega) dL_law_1117 dL_law_1118 dL_law_1119 (by decide) dL_law_1120 dL_law_1121 ?_
  refine arg_ (k := 3) hx hb S IM.2.2 hl (by omega) dL_law_1122 dL_law_1123 dL_law_1124 (by decide) dL_law_1125 dL_law_1126 ?_
  refine cG_ (k := 0) (nn := 3) (Xf2 := xfM) (rest := [.long r]) X xkM trivial IM (c_M_odds e2 _) (gLB gL_law_X12_odds) rfl ⟨rfl, rfl⟩ (by decide +kernel) ⟨Nat.le_of_ble_eq_true rfl, Nat.le_of_ble_eq_true rfl⟩ (by decide) shM_0 rfl rfl hl.1 rfl (Nat.le_of_ble_eq_true rfl) dL_law_1127 ⟨Nat.le_of_ble_eq_true rfl, Nat.le_of_ble_eq_true rfl⟩ (fun H2 locs2 IM2 hk2 => ?_)
  have IC := keepW IC IM2 hk2 hne
  refine W.lcmp hx hb dL_law_1130 ?_
  refine lv_if_eq (tgt := 1675) hx hb dL_law_1131 (by decide) (fun _ => ?_) (fun q => absurd (lc_eq r) q)
  exact kk τc τm _ _ ⟨IC, IM2, hne, hR1⟩
theorem cs_29 (X : lawX gs b D cy p s m meth c) (V : lawV aC aM D cy s H locs σc σm) (S : lawP b L i xs s) (hl : lv_has ls 4 [(0, .ref b), (1, .ref (aC 0)), (2, .ref (aM 0)), (3, .int (nI i))]) (kk : ∀ (σc σm : Sg) (H : Heap) (locs : List Loc), lawV aC aM D cy s H locs σc σm → W p l e room_1 s m #[Value.ref b] below meth c H locs 75 2073 Q (F0 m 1675 ls [])) : W p l e room_1 s m #[Value.ref b] below meth c H locs 75 2073 Q (F0 m 1136 ls []) := by
  obtain ⟨hx, hb, hml, hown, hts, hK, hA, hXf⟩ := id X
  obtain ⟨IC, IM, hne, hR⟩ := V
  obtain ⟨r, τc, τm, e1, e2, hR1⟩ := eq_hope hR (xs (i + 1)) (xs (i + 2))
  refine lv_aload_n hx hb dL_law_1136 rfl (lv_at hl 1 rfl) ?_
  refine arg_ (k := 1) hx hb S IC.2.2 hl (by omega) dL_law_1137 dL_law_1138 dL_law_1139 (by decide) dL_law_1140 dL_law_1141 ?_
  refine arg_ (k := 2) hx hb S IC.2.2 hl (by omega) dL_law_1142 dL_law_1143 dL_law_1144 (by decide) dL_law_1145 dL_law_1146 ?_
  refine cG_ (k := 0) (nn := 2) (Xf2 := xfC gs) (rest := []) X xkC hXf.1 IC (c_C_hope e1 _) (gLB gL_law_X11_hope) rfl ⟨rfl, rfl⟩ (by decide +kernel) ⟨Nat.le_of_ble_eq_true rfl, Nat.le_of_ble_eq_true rfl⟩ (by decide) shC_0 rfl rfl hl.1 rfl (Nat.le_of_ble_eq_true rfl) dL_law_1147 ⟨Nat.le_of_ble_eq_true rfl, Nat.le_of_ble_eq_true rfl⟩ (fun H1 locs1 IC1 hk1 => ?_)
  have IM := keepW IM IC1 hk1 (fun i j hi hj q => hne j i hj hi q.symm)
  clear hk1
  have IC := IC1
  refine lv_aload_n hx hb dL_law_1150 rfl (lv_at hl 2 rfl) ?_
  refine arg_ (k := 1) hx hb S IM.2.2 hl (by omega) dL_law_1151 dL_law_1152 dL_law_1153 (by decide) dL_law_1154 dL_law_1155 ?_
  refine arg_ (k := 2) hx hb S IM.2.2 hl (by omega) dL_law_1156 dL_law_1157 dL_law_1158 (by decide) dL_law_1159 dL_law_1160 ?_
  refine cG_ (k := 0) (nn := 2) (Xf2 := xfM) (rest := [.long r]) X xkM trivial IM (c_M_hope e2 _) (gLB gL_law_X12_hope) rfl ⟨rfl, rfl⟩ (by decide +kernel) ⟨Nat.le_of_ble_eq_true rfl, Nat.le_of_ble_eq_true rfl⟩ (by decide) shM_0 rfl rfl hl.1 rfl (Nat.le_of_ble_eq_true rfl) dL_law_1161 ⟨Nat.le_of_ble_eq_true rfl, Nat.le_of_ble_eq_true rfl⟩ (fun H2 locs2 IM2 hk2 => ?_)
  have IC := keepW IC IM2 hk2 hne
  refine W.lcmp hx hb dL_law_1164 ?_
  refine lv_if_eq (tgt := 1675) hx hb dL_law_1165 (by decide) (fun _ => ?_) (fun q => absurd (lc_eq r) q)
  exact kk τc τm _ _ ⟨IC, IM2, hne, hR1⟩
theorem cs_30 (X : lawX gs b D cy p s m meth c) (V : lawV aC aM D cy s H locs σc σm) (S : lawP b L i xs s) (hl : lv_has ls 4 [(0, .ref b), (1, .ref (aC 0)), (2, .ref (aM 0)), (3, .int (nI i))]) (kk : ∀ (σc σm : Sg) (H : Heap) (locs : List Loc), lawV aC aM D cy s H locs σc σm → W p l e room_1 s m #[Value.ref b] below meth c H locs 75 2073 Q (F0 m 1675 ls [])) : W p l e room_1 s m #[Value.ref b] below meth c H locs 75 2073 Q (F0 m 1170 ls []) := by
  obtain ⟨hx, hb, hml, hown, hts, hK, hA, hXf⟩ := id X
  obtain ⟨IC, IM, hne, hR⟩ := V
  obtain ⟨r, τc, τm, e1, e2, hR1⟩ := eq_prove hR (xs (i + 1)) (xs (i + 2))
  refine lv_aload_n hx hb dL_law_1170 rfl (lv_at hl 1 rfl) ?_
  refine arg_ (k := 1) hx hb S IC.2.2 hl (by omega) dL_law_1171 dL_law_1172 dL_law_1173 (by decide) dL_law_1174 dL_law_1175 ?_
  refine arg_ (k := 2) hx hb S IC.2.2 hl (by omega) dL_law_1176 dL_law_1177 dL_law_1178 (by decide) dL_law_1179 dL_law_1180 ?_
  refine cG_ (k := 0) (nn := 2) (Xf2 := xfC gs) (rest := []) X xkC hXf.1 IC (c_C_prove e1 _) (gLB gL_law_X11_prove) rfl ⟨rfl, rfl⟩ (by decide +kernel) ⟨Nat.le_of_ble_eq_true rfl, Nat.le_of_ble_eq_true rfl⟩ (by decide) shC_0 rfl rfl hl.1 rfl (Nat.le_of_ble_eq_true rfl) dL_law_1181 ⟨Nat.le_of_ble_eq_true rfl, Nat.le_of_ble_eq_true rfl⟩ (fun H1 locs1 IC1 hk1 => ?_)
  have IM := keepW IM IC1 hk1 (fun i j hi hj q => hne j i hj hi q.symm)
  clear hk1
  have IC := IC1
  refine lv_aload_n hx hb dL_law_1184 rfl (lv_at hl 2 rfl) ?_
  refine arg_ (k := 1) hx hb S IM.2.2 hl (by omega) dL_law_1185 dL_law_1186 dL_law_1187 (by decide) dL_law_1188 dL_law_1189 ?_
  refine arg_ (k := 2) hx hb S IM.2.2 hl (by omega) dL_law_1190 dL_law_1191 dL_law_1192 (by decide) dL_law_1193 dL_law_1194 ?_
  refine cG_ (k := 0) (nn := 2) (Xf2 := xfM) (rest := [.int r]) X xkM trivial IM (c_M_prove e2 _) (gLB gL_law_X12_prove) rfl ⟨rfl, rfl⟩ (by decide +kernel) ⟨Nat.le_of_ble_eq_true rfl, Nat.le_of_ble_eq_true rfl⟩ (by decide) shM_0 rfl rfl hl.1 rfl (Nat.le_of_ble_eq_true rfl) dL_law_1195 ⟨Nat.le_of_ble_eq_true rfl, Nat.le_of_ble_eq_true rfl⟩ (fun H2 locs2 IM2 hk2 => ?_)
  have IC := keepW IC IM2 hk2 hne
  refine lv_icmp_eq (tgt := 1675) hx hb dL_law_1198 (by decide) (fun _ => ?_) (fun q => absurd rfl q)
  exact kk τc τm _ _ ⟨IC, IM2, hne, hR1⟩
theorem cs_31 (X : lawX gs b D cy p s m meth c) (V : lawV aC aM D cy s H locs σc σm) (S : lawP b L i xs s) (hl : lv_has ls 4 [(0, .ref b), (1, .ref (aC 0)), (2, .ref (aM 0)), (3, .int (nI i))]) (kk : ∀ (σc σm : Sg) (H : Heap) (locs : List Loc), lawV aC aM D cy s H locs σc σm → W p l e room_1 s m #[Value.ref b] below meth c H locs 75 2073 Q (F0 m 1675 ls [])) : W p l e room_1 s m #[Value.ref b] below meth c H locs 75 2073 Q (F0 m 1203 ls []) := by
  obtain ⟨hx, hb, hml, hown, hts, hK, hA, hXf⟩ := id X
  obtain ⟨IC, IM, hne, hR⟩ := V
  obtain ⟨r, τc, τm, e1, e2, hR1⟩ := eq_row hR (xs (i + 1)) (xs (i + 2))
  refine lv_aload_n hx hb dL_law_1203 rfl (lv_at hl 1 rfl) ?_
  refine arg_ (k := 1) hx hb S IC.2.2 hl (by omega) dL_law_1204 dL_law_1205 dL_law_1206 (by decide) dL_law_1207 dL_law_1208 ?_
  refine arg_ (k := 2) hx hb S IC.2.2 hl (by omega) dL_law_1209 dL_law_1210 dL_law_1211 (by decide) dL_law_1212 dL_law_1213 ?_
  refine cG_ (k := 0) (nn := 2) (Xf2 := xfC gs) (rest := []) X xkC hXf.1 IC (c_C_row e1 _) (gLB gL_law_X11_row) rfl ⟨rfl, rfl⟩ (by decide +kernel) ⟨Nat.le_of_ble_eq_true rfl, Nat.le_of_ble_eq_true rfl⟩ (by decide) shC_0 rfl rfl hl.1 rfl (Nat.le_of_ble_eq_true rfl) dL_law_1214 ⟨Nat.le_of_ble_eq_true rfl, Nat.le_of_ble_eq_true rfl⟩ (fun H1 locs1 IC1 hk1 => ?_)
  have IM := keepW IM IC1 hk1 (fun i j hi hj q => hne j i hj hi q.symm)
  clear hk1
  have IC := IC1
  refine lv_aload_n hx hb dL_law_1217 rfl (lv_at hl 2 rfl) ?_
  refine arg_ (k := 1) hx hb S IM.2.2 hl (by omega) dL_law_1218 dL_law_1219 dL_law_1220 (by decide) dL_law_1221 dL_law_1222 ?_
  refine arg_ (k := 2) hx hb S IM.2.2 hl (by omega) dL_law_1223 dL_law_1224 dL_law_1225 (by decide) dL_law_1226 dL_law_1227 ?_
  refine cG_ (k := 0) (nn := 2) (Xf2 := xfM) (rest := [.int r]) X xkM trivial IM (c_M_row e2 _) (gLB gL_law_X12_row) rfl ⟨rfl, rfl⟩ (by decide +kernel) ⟨Nat.le_of_ble_eq_true rfl, Nat.le_of_ble_eq_true rfl⟩ (by decide) shM_0 rfl rfl hl.1 rfl (Nat.le_of_ble_eq_true rfl) dL_law_1228 ⟨Nat.le_of_ble_eq_true rfl, Nat.le_of_ble_eq_true rfl⟩ (fun H2 locs2 IM2 hk2 => ?_)
  have IC := keepW IC IM2 hk2 hne
  refine lv_icmp_eq (tgt := 1675) hx hb dL_law_1231 (by decide) (fun _ => ?_) (fun q => absurd rfl q)
  exact kk τc τm _ _ ⟨IC, IM2, hne, hR1⟩
theorem cs_32 (X : lawX gs b D cy p s m meth c) (V : lawV aC aM D cy s H locs σc σm) (S : lawP b L i xs s) (hl : lv_has ls 4 [(0, .ref b), (1, .ref (aC 0)), (2, .ref (aM 0)), (3, .int (nI i))]) (kk : ∀ (σc σm : Sg) (H : Heap) (locs : List Loc), lawV aC aM D cy s H locs σc σm → W p l e room_1 s m #[Value.ref b] below meth c H locs 75 2073 Q (F0 m 1675 ls [])) : W p l e room_1 s m #[Value.ref b] below meth c H locs 75 2073 Q (F0 m 1236 ls []) := by
  obtain ⟨hx, hb, hml, hown, hts, hK, hA, hXf⟩ := id X
  obtain ⟨IC, IM, hne, hR⟩ := V
  obtain ⟨r, τc, τm, e1, e2, hR1⟩ := eq_alterRow hR (xs (i + 1)) (xs (i + 2)) (xs (i + 3))
  refine lv_aload_n hx hb dL_law_1236 rfl (lv_at hl 1 rfl) ?_
  refine arg_ (k := 1) hx hb S IC.2.2 hl (by omega) dL_law_1237 dL_law_1238 dL_law_1239 (by decide) dL_law_1240 dL_law_1241 ?_
  refine arg_ (k := 2) hx hb S IC.2.2 hl (by omega) dL_law_1242 dL_law_1243 dL_law_1244 (by decide) dL_law_1245 dL_law_1246 ?_
  refine arg_ (k := 3) hx hb S IC.2.2 hl (by omega) dL_law_1247 dL_law_1248 dL_law_1249 (by decide) dL_law_1250 dL_law_1251 ?_
  refine cG_ (k := 0) (nn := 3) (Xf2 := xfC gs) (rest := []) X xkC hXf.1 IC (c_C_alterRow e1 _) (gLB gL_law_X11_alterRow) rfl ⟨rfl, rfl⟩ (by decide +kernel) ⟨Nat.le_of_ble_eq_true rfl, Nat.le_of_ble_eq_true rfl⟩ (by decide) shC_0 rfl rfl hl.1 rfl (Nat.le_of_ble_eq_true rfl) dL_law_1252 ⟨Nat.le_of_ble_eq_true rfl, Nat.le_of_ble_eq_true rfl⟩ (fun H1 locs1 IC1 hk1 => ?_)
  have IM := keepW IM IC1 hk1 (fun i j hi hj q => hne j i hj hi q.symm)
  clear hk1
  have IC := IC1
  refine lv_aload_n hx hb dL_law_1255 rfl (lv_at hl 2 rfl) ?_
  refine arg_ (k := 1) hx hb S IM.2.2 hl (by omega) dL_law_1256 dL_law_1257 dL_law_1258 (by decide) dL_law_1259 dL_law_1260 ?_
  refine arg_ (k := 2) hx hb S IM.2.2 hl (by omega) dL_law_1261 dL_law_1262 dL_law_1263 (by decide) dL_law_1264 dL_law_1265 ?_
  refine arg_ (k := 3) hx hb S IM.2.2 hl (by omega) dL_law_1266 dL_law_1267 dL_law_1268 (by decide) dL_law_1269 dL_law_1270 ?_
  refine cG_ (k := 0) (nn := 3) (Xf2 := xfM) (rest := [.int r]) X xkM trivial IM (c_M_alterRow e2 _) (gLB gL_law_X12_alterRow) rfl ⟨rfl, rfl⟩ (by decide +kernel) ⟨Nat.le_of_ble_eq_true rfl, Nat.le_of_ble_eq_true rfl⟩ (by decide) shM_0 rfl rfl hl.1 rfl (Nat.le_of_ble_eq_true rfl) dL_law_1271 ⟨Nat.le_of_ble_eq_true rfl, Nat.le_of_ble_eq_true rfl⟩ (fun H2 locs2 IM2 hk2 => ?_)
  have IC := keepW IC IM2 hk2 hne
  refine lv_icmp_eq (tgt := 1675) hx hb dL_law_1274 (by decide) (fun _ => ?_) (fun q => absurd rfl q)
  exact kk τc τm _ _ ⟨IC, IM2, hne, hR1⟩
theorem cs_33 (X : lawX gs b D cy p s m meth c) (V : lawV aC aM D cy s H locs σc σm) (S : lawP b L i xs s) (hl : lv_has ls 4 [(0, .ref b), (1, .ref (aC 0)), (2, .ref (aM 0)), (3, .int (nI i))]) (kk : ∀ (σc σm : Sg) (H : Heap) (locs : List Loc), lawV aC aM D cy s H locs σc σm → W p l e room_1 s m #[Value.ref b] below meth c H locs 75 2073 Q (F0 m 1675 ls [])) : W p l e room_1 s m #[Value.ref b] below meth c H locs 75 2073 Q (F0 m 1279 ls []) := by
  obtain ⟨hx, hb, hml, hown, hts, hK, hA, hXf⟩ := id X
  obtain ⟨IC, IM, hne, hR⟩ := V
  obtain ⟨r, τc, τm, e1, e2, hR1⟩ := eq_judge hR (xs (i + 1))
  refine lv_aload_n hx hb dL_law_1279 rfl (lv_at hl 1 rfl) ?_
  refine arg_ (k := 1) hx hb S IC.2.2 hl (by omega) dL_law_1280 dL_law_1281 dL_law_1282 (by decide) dL_law_1283 dL_law_1284 ?_
  refine cG_ (k := 0) (nn := 1) (Xf2 := xfC gs) (rest := []) X xkC hXf.1 IC (c_C_judge e1 _) (gLB gL_law_X11_judge) rfl ⟨rfl, rfl⟩ (by decide +kernel) ⟨Nat.le_of_ble_eq_true rfl, Nat.le_of_ble_eq_true rfl⟩ (by decide) shC_0 rfl rfl hl.1 rfl (Nat.le_of_ble_eq_true rfl) dL_law_1285 ⟨Nat.le_of_ble_eq_true rfl, Nat.le_of_ble_eq_true rfl⟩ (fun H1 locs1 IC1 hk1 => ?_)
  have IM := keepW IM IC1 hk1 (fun i j hi hj q => hne j i hj hi q.symm)
  clear hk1
  have IC := IC1
  refine lv_aload_n hx hb dL_law_1288 rfl (lv_at hl 2 rfl) ?_
  refine arg_ (k := 1) hx hb S IM.2.2 hl (by omega) dL_law_1289 dL_law_1290 dL_law_1291 (by decide) dL_law_1292 dL_law_1293 ?_
  refine cG_ (k := 0) (nn := 1) (Xf2 := xfM) (rest := [.int r]) X xkM trivial IM (c_M_judge e2 _) (gLB gL_law_X12_judge) rfl ⟨rfl, rfl⟩ (by decide +kernel) ⟨Nat.le_of_ble_eq_true rfl, Nat.le_of_ble_eq_true rfl⟩ (by decide) shM_0 rfl rfl hl.1 rfl (Nat.le_of_ble_eq_true rfl) dL_law_1294 ⟨Nat.le_of_ble_eq_true rfl, Nat.le_of_ble_eq_true rfl⟩ (fun H2 locs2 IM2 hk2 => ?_)
  have IC := keepW IC IM2 hk2 hne
  refine lv_icmp_eq (tgt := 1675) hx hb dL_law_1297 (by decide) (fun _ => ?_) (fun q => absurd rfl q)
  exact kk τc τm _ _ ⟨IC, IM2, hne, hR1⟩
theorem cs_34 (X : lawX gs b D cy p s m meth c) (V : lawV aC aM D cy s H locs σc σm) (S : lawP b L i xs s) (hl : lv_has ls 4 [(0, .ref b), (1, .ref (aC 0)), (2, .ref (aM 0)), (3, .int (nI i))]) (kk : ∀ (σc σm : Sg) (H : Heap) (locs : List Loc), lawV aC aM D cy s H locs σc σm → W p l e room_1 s m #[Value.ref b] below meth c H locs 75 2073 Q (F0 m 1675 ls [])) : W p l e room_1 s m #[Value.ref b] below meth c H locs 75 2073 Q (F0 m 1302 ls []) := by
  obtain ⟨hx, hb, hml, hown, hts, hK, hA, hXf⟩ := id X
  obtain ⟨IC, IM, hne, hR⟩ := V
  obtain ⟨r, τc, τm, e1, e2, hR1⟩ := eq_minds hR (xs (i + 1)) (xs (i + 2)) (xs (i + 3)) (xs (i + 4))
  refine lv_aload_n hx hb dL_law_1302 rfl (lv_at hl 1 rfl) ?_
  refine arg_ (k := 1) hx hb S IC.2.2 hl (by omega) dL_law_1303 dL_law_1304 dL_law_1305 (by decide) dL_law_1306 dL_law_1307 ?_
  refine arg_ (k := 2) hx hb S IC.2.2 hl (by omega) dL_law_1308 dL_law_1309 dL_law_1310 (by decide) dL_law_1311 dL_law_1312 ?_
  refine arg_ (k := 3) hx hb S IC.2.2 hl (by omega) dL_law_1313 dL_law_1314 dL_law_1315 (by decide) dL_law_1316 dL_law_1317 ?_
  refine arg_ (k := 4) hx hb S IC.2.2 hl (by omega) dL_law_1318 dL_law_1319 dL_law_1320 (by decide) dL_law_1321 dL_law_1322 ?_
  refine cG_ (k := 0) (nn := 4) (Xf2 := xfC gs) (rest := []) X xkC hXf.1 IC (c_C_minds e1 _) (gLB gL_law_X11_minds) rfl ⟨rfl, rfl⟩ (by decide +kernel) ⟨Nat.le_of_ble_eq_true rfl, Nat.le_of_ble_eq_true rfl⟩ (by decide) shC_0 rfl rfl hl.1 rfl (Nat.le_of_ble_eq_true rfl) dL_law_1323 ⟨Nat.le_of_ble_eq_true rfl, Nat.le_of_ble_eq_true rfl⟩ (fun H1 locs1 IC1 hk1 => ?_)
  have IM := keepW IM IC1 hk1 (fun i j hi hj q => hne j i hj hi q.symm)
  clear hk1
  have IC := IC1
  refine lv_aload_n hx hb dL_law_1326 rfl (lv_at hl 2 rfl) ?_
  refine arg_ (k := 1) hx hb S IM.2.2 hl (by omega) dL_law_1327 dL_law_1328 dL_law_1329 (by decide) dL_law_1330 dL_law_1331 ?_
  refine arg_ (k := 2) hx hb S IM.2.2 hl (by omega) dL_law_1332 dL_law_1333 dL_law_1334 (by decide) dL_law_1335 dL_law_1336 ?_
  refine arg_ (k := 3) hx hb S IM.2.2 hl (by omega) dL_law_1337 dL_law_1338 dL_law_1339 (by decide) dL_law_1340 dL_law_1341 ?_
  refine arg_ (k := 4) hx hb S IM.2.2 hl (by omega) dL_law_1342 dL_law_1343 dL_law_1344 (by decide) dL_law_1345 dL_law_1346 ?_
  refine cG_ (k := 0) (nn := 4) (Xf2 := xfM) (rest := [.int r]) X xkM trivial IM (c_M_minds e2 _) (gLB gL_law_X12_minds) rfl ⟨rfl, rfl⟩ (by decide +kernel) ⟨Nat.le_of_ble_eq_true rfl, Nat.le_of_ble_eq_true rfl⟩ (by decide) shM_0 rfl rfl hl.1 rfl (Nat.le_of_ble_eq_true rfl) dL_law_1347 ⟨Nat.le_of_ble_eq_true rfl, Nat.le_of_ble_eq_true rfl⟩ (fun H2 locs2 IM2 hk2 => ?_)
  have IC := keepW IC IM2 hk2 hne
  refine lv_icmp_eq (tgt := 1675) hx hb dL_law_1350 (by decide) (fun _ => ?_) (fun q => absurd rfl q)
  exact kk τc τm _ _ ⟨IC, IM2, hne, hR1⟩
theorem cs_35 (X : lawX gs b D cy p s m meth c) (V : lawV aC aM D cy s H locs σc σm) (S : lawP b L i xs s) (hl : lv_has ls 4 [(0, .ref b), (1, .ref (aC 0)), (2, .ref (aM 0)), (3, .int (nI i))]) (kk : ∀ (σc σm : Sg) (H : Heap) (locs : List Loc), lawV aC aM D cy s H locs σc σm → W p l e room_1 s m #[Value.ref b] below meth c H locs 75 2073 Q (F0 m 1675 ls [])) : W p l e room_1 s m #[Value.ref b] below meth c H locs 75 2073 Q (F0 m 1355 ls []) := by
  obtain ⟨hx, hb, hml, hown, hts, hK, hA, hXf⟩ := id X
  obtain ⟨IC, IM, hne, hR⟩ := V
  obtain ⟨r, τc, τm, e1, e2, hR1⟩ := eq_sheet hR (xs (i + 1)) (xs (i + 2)) (xs (i + 3))
  refine lv_aload_n hx hb dL_law_1355 rfl (lv_at hl 1 rfl) ?_
  refine arg_ (k := 1) hx hb S IC.2.2 hl (by omega) dL_law_1356 dL_law_1357 dL_law_1358 (by decide) dL_law_1359 dL_law_1360 ?_
  refine arg_ (k := 2) hx hb S IC.2.2 hl (by omega) dL_law_1361 dL_law_1362 dL_law_1363 (by decide) dL_law_1364 dL_law_1365 ?_
  refine arg_ (k := 3) hx hb S IC.2.2 hl (by omega) dL_law_1366 dL_law_1367 dL_law_1368 (by decide) dL_law_1369 dL_law_1370 ?_
  refine cG_ (k := 0) (nn := 3) (Xf2 := xfC gs) (rest := []) X xkC hXf.1 IC (c_C_sheet e1 _) (gLB gL_law_X11_sheet) rfl ⟨rfl, rfl⟩ (by decide +kernel) ⟨Nat.le_of_ble_eq_true rfl, Nat.le_of_ble_eq_true rfl⟩ (by decide) shC_0 rfl rfl hl.1 rfl (Nat.le_of_ble_eq_true rfl) dL_law_1371 ⟨Nat.le_of_ble_eq_true rfl, Nat.le_of_ble_eq_true rfl⟩ (fun H1 locs1 IC1 hk1 => ?_)
  have IM := keepW IM IC1 hk1 (fun i j hi hj q => hne j i hj hi q.symm)
  clear hk1
  have IC := IC1
  refine lv_aload_n hx hb dL_law_1374 rfl (lv_at hl 2 rfl) ?_
  refine arg_ (k := 1) hx hb S IM.2.2 hl (by omega) dL_law_1375 dL_law_1376 dL_law_1377 (by decide) dL_law_1378 dL_law_1379 ?_
  refine arg_ (k := 2) hx hb S IM.2.2 hl (by omega) dL_law_1380 dL_law_1381 dL_law_1382 (by decide) dL_law_1383 dL_law_1384 ?_
  refine arg_ (k := 3) hx hb S IM.2.2 hl (by omega) dL_law_1385 dL_law_1386 dL_law_1387 (by decide) dL_law_1388 dL_law_1389 ?_
  refine cG_ (k := 0) (nn := 3) (Xf2 := xfM) (rest := [.int r]) X xkM trivial IM (c_M_sheet e2 _) (gLB gL_law_X12_sheet) rfl ⟨rfl, rfl⟩ (by decide +kernel) ⟨Nat.le_of_ble_eq_true rfl, Nat.le_of_ble_eq_true rfl⟩ (by decide) shM_0 rfl rfl hl.1 rfl (Nat.le_of_ble_eq_true rfl) dL_law_1390 ⟨Nat.le_of_ble_eq_true rfl, Nat.le_of_ble_eq_true rfl⟩ (fun H2 locs2 IM2 hk2 => ?_)
  have IC := keepW IC IM2 hk2 hne
  refine lv_icmp_eq (tgt := 1675) hx hb dL_law_1393 (by decide) (fun _ => ?_) (fun q => absurd rfl q)
  exact kk τc τm _ _ ⟨IC, IM2, hne, hR1⟩
theorem cs_36 (X : lawX gs b D cy p s m meth c) (V : lawV aC aM D cy s H locs σc σm) (S : lawP b L i xs s) (hl : lv_has ls 4 [(0, .ref b), (1, .ref (aC 0)), (2, .ref (aM 0)), (3, .int (nI i))]) (kk : ∀ (σc σm : Sg) (H : Heap) (locs : List Loc), lawV aC aM D cy s H locs σc σm → W p l e room_1 s m #[Value.ref b] below meth c H locs 75 2073 Q (F0 m 1675 ls [])) : W p l e room_1 s m #[Value.ref b] below meth c H locs 75 2073 Q (F0 m 1398 ls []) := by
  obtain ⟨hx, hb, hml, hown, hts, hK, hA, hXf⟩ := id X
  obtain ⟨IC, IM, hne, hR⟩ := V
  obtain ⟨r, τc, τm, e1, e2, hR1⟩ := eq_put hR (xs (i + 1)) (xs (i + 2)) (xs (i + 3))
  refine lv_aload_n hx hb dL_law_1398 rfl (lv_at hl 1 rfl) ?_
  refine arg_ (k := 1) hx hb S IC.2.2 hl (by omega) dL_law_1399 dL_law_1400 dL_law_1401 (by decide) dL_law_1402 dL_law_1403 ?_
  refine arg_ (k := 2) hx hb S IC.2.2 hl (by omega) dL_law_1404 dL_law_1405 dL_law_1406 (by decide) dL_law_1407 dL_law_1408 ?_
  refine arg_ (k := 3) hx hb S IC.2.2 hl (by omega) dL_law_1409 dL_law_1410 dL_law_1411 (by decide) dL_law_1412 dL_law_1413 ?_
  refine cG_ (k := 0) (nn := 3) (Xf2 := xfC gs) (rest := []) X xkC hXf.1 IC (c_C_put e1 _) (gLB gL_law_X11_put) rfl ⟨rfl, rfl⟩ (by decide +kernel) ⟨Nat.le_of_ble_eq_true rfl, Nat.le_of_ble_eq_true rfl⟩ (by decide) shC_0 rfl rfl hl.1 rfl (Nat.le_of_ble_eq_true rfl) dL_law_1414 ⟨Nat.le_of_ble_eq_true rfl, Nat.le_of_ble_eq_true rfl⟩ (fun H1 locs1 IC1 hk1 => ?_)
  have IM := keepW IM IC1 hk1 (fun i j hi hj q => hne j i hj hi q.symm)
  clear hk1
  have IC := IC1
  refine lv_aload_n hx hb dL_law_1417 rfl (lv_at hl 2 rfl) ?_
  refine arg_ (k := 1) hx hb S IM.2.2 hl (by omega) dL_law_1418 dL_law_1419 dL_law_1420 (by decide) dL_law_1421 dL_law_1422 ?_
  refine arg_ (k := 2) hx hb S IM.2.2 hl (by omega) dL_law_1423 dL_law_1424 dL_law_1425 (by decide) dL_law_1426 dL_law_1427 ?_
  refine arg_ (k := 3) hx hb S IM.2.2 hl (by omega) dL_law_1428 dL_law_1429 dL_law_1430 (by decide) dL_law_1431 dL_law_1432 ?_
  refine cG_ (k := 0) (nn := 3) (Xf2 := xfM) (rest := [.int r]) X xkM trivial IM (c_M_put e2 _) (gLB gL_law_X12_put) rfl ⟨rfl, rfl⟩ (by decide +kernel) ⟨Nat.le_of_ble_eq_true rfl, Nat.le_of_ble_eq_true rfl⟩ (by decide) shM_0 rfl rfl hl.1 rfl (Nat.le_of_ble_eq_true rfl) dL_law_1433 ⟨Nat.le_of_ble_eq_true rfl, Nat.le_of_ble_eq_true rfl⟩ (fun H2 locs2 IM2 hk2 => ?_)
  have IC := keepW IC IM2 hk2 hne
  refine lv_icmp_eq (tgt := 1675) hx hb dL_law_1436 (by decide) (fun _ => ?_) (fun q => absurd rfl q)
  exact kk τc τm _ _ ⟨IC, IM2, hne, hR1⟩
theorem cs_37 (X : lawX gs b D cy p s m meth c) (V : lawV aC aM D cy s H locs σc σm) (S : lawP b L i xs s) (hl : lv_has ls 4 [(0, .ref b), (1, .ref (aC 0)), (2, .ref (aM 0)), (3, .int (nI i))]) (kk : ∀ (σc σm : Sg) (H : Heap) (locs : List Loc), lawV aC aM D cy s H locs σc σm → W p l e room_1 s m #[Value.ref b] below meth c H locs 75 2073 Q (F0 m 1675 ls [])) : W p l e room_1 s m #[Value.ref b] below meth c H locs 75 2073 Q (F0 m 1441 ls []) := by
  obtain ⟨hx, hb, hml, hown, hts, hK, hA, hXf⟩ := id X
  obtain ⟨IC, IM, hne, hR⟩ := V
  obtain ⟨r, τc, τm, e1, e2, hR1⟩ := eq_item hR (xs (i + 1)) (xs (i + 2)) (xs (i + 3))
  refine lv_aload_n hx hb dL_law_1441 rfl (lv_at hl 1 rfl) ?_
  refine arg_ (k := 1) hx hb S IC.2.2 hl (by omega) dL_law_1442 dL_law_1443 dL_law_1444 (by decide) dL_law_1445 dL_law_1446 ?_
  refine arg_ (k := 2) hx hb S IC.2.2 hl (by omega) dL_law_1447 dL_law_1448 dL_law_1449 (by decide) dL_law_1450 dL_law_1451 ?_
  refine arg_ (k := 3) hx hb S IC.2.2 hl (by omega) dL_law_1452 dL_law_1453 dL_law_1454 (by decide) dL_law_1455 dL_law_1456 ?_
  refine cG_ (k := 0) (nn := 3) (Xf2 := xfC gs) (rest := []) X xkC hXf.1 IC (c_C_item e1 _) (gLB gL_law_X11_item) rfl ⟨rfl, rfl⟩ (by decide +kernel) ⟨Nat.le_of_ble_eq_true rfl, Nat.le_of_ble_eq_true rfl⟩ (by decide) shC_0 rfl rfl hl.1 rfl (Nat.le_of_ble_eq_true rfl) dL_law_1457 ⟨Nat.le_of_ble_eq_true rfl, Nat.le_of_ble_eq_true rfl⟩ (fun H1 locs1 IC1 hk1 => ?_)
  have IM := keepW IM IC1 hk1 (fun i j hi hj q => hne j i hj hi q.symm)
  clear hk1
  have IC := IC1
  refine lv_aload_n hx hb dL_law_1460 rfl (lv_at hl 2 rfl) ?_
  refine arg_ (k := 1) hx hb S IM.2.2 hl (by omega) dL_law_1461 dL_law_1462 dL_law_1463 (by decide) dL_law_1464 dL_law_1465 ?_
  refine arg_ (k := 2) hx hb S IM.2.2 hl (by omega) dL_law_1466 dL_law_1467 dL_law_1468 (by decide) dL_law_1469 dL_law_1470 ?_
  refine arg_ (k := 3) hx hb S IM.2.2 hl (by omega) dL_law_1471 dL_law_1472 dL_law_1473 (by decide) dL_law_1474 dL_law_1475 ?_
  refine cG_ (k := 0) (nn := 3) (Xf2 := xfM) (rest := [.int r]) X xkM trivial IM (c_M_item e2 _) (gLB gL_law_X12_item) rfl ⟨rfl, rfl⟩ (by decide +kernel) ⟨Nat.le_of_ble_eq_true rfl, Nat.le_of_ble_eq_true rfl⟩ (by decide) shM_0 rfl rfl hl.1 rfl (Nat.le_of_ble_eq_true rfl) dL_law_1476 ⟨Nat.le_of_ble_eq_true rfl, Nat.le_of_ble_eq_true rfl⟩ (fun H2 locs2 IM2 hk2 => ?_)
  have IC := keepW IC IM2 hk2 hne
  refine lv_icmp_eq (tgt := 1675) hx hb dL_law_1479 (by decide) (fun _ => ?_) (fun q => absurd rfl q)
  exact kk τc τm _ _ ⟨IC, IM2, hne, hR1⟩
theorem cs_38 (X : lawX gs b D cy p s m meth c) (V : lawV aC aM D cy s H locs σc σm) (S : lawP b L i xs s) (hl : lv_has ls 4 [(0, .ref b), (1, .ref (aC 0)), (2, .ref (aM 0)), (3, .int (nI i))]) (kk : ∀ (σc σm : Sg) (H : Heap) (locs : List Loc), lawV aC aM D cy s H locs σc σm → W p l e room_1 s m #[Value.ref b] below meth c H locs 75 2073 Q (F0 m 1675 ls [])) : W p l e room_1 s m #[Value.ref b] below meth c H locs 75 2073 Q (F0 m 1484 ls []) := by
  obtain ⟨hx, hb, hml, hown, hts, hK, hA, hXf⟩ := id X
  obtain ⟨IC, IM, hne, hR⟩ := V
  obtain ⟨r, τc, τm, e1, e2, hR1⟩ := eq_shelf hR (xs (i + 1)) (xs (i + 2)) (xs (i + 3))
  refine lv_aload_n hx hb dL_law_1484 rfl (lv_at hl 1 rfl) ?_
  refine arg_ (k := 1) hx hb S IC.2.2 hl (by omega) dL_law_1485 dL_law_1486 dL_law_1487 (by decide) dL_law_1488 dL_law_1489 ?_
  refine arg_ (k := 2) hx hb S IC.2.2 hl (by omega) dL_law_1490 dL_law_1491 dL_law_1492 (by decide) dL_law_1493 dL_law_1494 ?_
  refine arg_ (k := 3) hx hb S IC.2.2 hl (by omega) dL_law_1495 dL_law_1496 dL_law_1497 (by decide) dL_law_1498 dL_law_1499 ?_
  refine cG_ (k := 0) (nn := 3) (Xf2 := xfC gs) (rest := []) X xkC hXf.1 IC (c_C_shelf e1 _) (gLB gL_law_X11_shelf) rfl ⟨rfl, rfl⟩ (by decide +kernel) ⟨Nat.le_of_ble_eq_true rfl, Nat.le_of_ble_eq_true rfl⟩ (by decide) shC_0 rfl rfl hl.1 rfl (Nat.le_of_ble_eq_true rfl) dL_law_1500 ⟨Nat.le_of_ble_eq_true rfl, Nat.le_of_ble_eq_true rfl⟩ (fun H1 locs1 IC1 hk1 => ?_)
  have IM := keepW IM IC1 hk1 (fun i j hi hj q => hne j i hj hi q.symm)
  clear hk1
  have IC := IC1
  refine lv_aload_n hx hb dL_law_1503 rfl (lv_at hl 2 rfl) ?_
  refine arg_ (k := 1) hx hb S IM.2.2 hl (by omega) dL_law_1504 dL_law_1505 dL_law_1506 (by decide) dL_law_1507 dL_law_1508 ?_
  refine arg_ (k := 2) hx hb S IM.2.2 hl (by omega) dL_law_1509 dL_law_1510 dL_law_1511 (by decide) dL_law_1512 dL_law_1513 ?_
  refine arg_ (k := 3) hx hb S IM.2.2 hl (by omega) dL_law_1514 dL_law_1515 dL_law_1516 (by decide) dL_law_1517 dL_law_1518 ?_
  refine cG_ (k := 0) (nn := 3) (Xf2 := xfM) (rest := [.int r]) X xkM trivial IM (c_M_shelf e2 _) (gLB gL_law_X12_shelf) rfl ⟨rfl, rfl⟩ (by decide +kernel) ⟨Nat.le_of_ble_eq_true rfl, Nat.le_of_ble_eq_true rfl⟩ (by decide) shM_0 rfl rfl hl.1 rfl (Nat.le_of_ble_eq_true rfl) dL_law_1519 ⟨Nat.le_of_ble_eq_true rfl, Nat.le_of_ble_eq_true rfl⟩ (fun H2 locs2 IM2 hk2 => ?_)
  have IC := keepW IC IM2 hk2 hne
  refine lv_icmp_eq (tgt := 1675) hx hb dL_law_1522 (by decide) (fun _ => ?_) (fun q => absurd rfl q)
  exact kk τc τm _ _ ⟨IC, IM2, hne, hR1⟩
theorem cs_39 (X : lawX gs b D cy p s m meth c) (V : lawV aC aM D cy s H locs σc σm) (S : lawP b L i xs s) (hl : lv_has ls 4 [(0, .ref b), (1, .ref (aC 0)), (2, .ref (aM 0)), (3, .int (nI i))]) (kk : ∀ (σc σm : Sg) (H : Heap) (locs : List Loc), lawV aC aM D cy s H locs σc σm → W p l e room_1 s m #[Value.ref b] below meth c H locs 75 2073 Q (F0 m 1675 ls [])) : W p l e room_1 s m #[Value.ref b] below meth c H locs 75 2073 Q (F0 m 1527 ls []) := by
  obtain ⟨hx, hb, hml, hown, hts, hK, hA, hXf⟩ := id X
  obtain ⟨IC, IM, hne, hR⟩ := V
  obtain ⟨r, τc, τm, e1, e2, hR1⟩ := eq_taken hR (xs (i + 1)) (xs (i + 2))
  refine lv_aload_n hx hb dL_law_1527 rfl (lv_at hl 1 rfl) ?_
  refine arg_ (k := 1) hx hb S IC.2.2 hl (by omega) dL_law_1528 dL_law_1529 dL_law_1530 (by decide) dL_law_1531 dL_law_1532 ?_
  refine arg_ (k := 2) hx hb S IC.2.2 hl (by omega) dL_law_1533 dL_law_1534 dL_law_1535 (by decide) dL_law_1536 dL_law_1537 ?_
  refine cG_ (k := 0) (nn := 2) (Xf2 := xfC gs) (rest := []) X xkC hXf.1 IC (c_C_taken e1 _) (gLB gL_law_X11_taken) rfl ⟨rfl, rfl⟩ (by decide +kernel) ⟨Nat.le_of_ble_eq_true rfl, Nat.le_of_ble_eq_true rfl⟩ (by decide) shC_0 rfl rfl hl.1 rfl (Nat.le_of_ble_eq_true rfl) dL_law_1538 ⟨Nat.le_of_ble_eq_true rfl, Nat.le_of_ble_eq_true rfl⟩ (fun H1 locs1 IC1 hk1 => ?_)
  have IM := keepW IM IC1 hk1 (fun i j hi hj q => hne j i hj hi q.symm)
  clear hk1
  have IC := IC1
  refine lv_aload_n hx hb dL_law_1541 rfl (lv_at hl 2 rfl) ?_
  refine arg_ (k := 1) hx hb S IM.2.2 hl (by omega) dL_law_1542 dL_law_1543 dL_law_1544 (by decide) dL_law_1545 dL_law_1546 ?_
  refine arg_ (k := 2) hx hb S IM.2.2 hl (by omega) dL_law_1547 dL_law_1548 dL_law_1549 (by decide) dL_law_1550 dL_law_1551 ?_
  refine cG_ (k := 0) (nn := 2) (Xf2 := xfM) (rest := [.int r]) X xkM trivial IM (c_M_taken e2 _) (gLB gL_law_X12_taken) rfl ⟨rfl, rfl⟩ (by decide +kernel) ⟨Nat.le_of_ble_eq_true rfl, Nat.le_of_ble_eq_true rfl⟩ (by decide) shM_0 rfl rfl hl.1 rfl (Nat.le_of_ble_eq_true rfl) dL_law_1552 ⟨Nat.le_of_ble_eq_true rfl, Nat.le_of_ble_eq_true rfl⟩ (fun H2 locs2 IM2 hk2 => ?_)
  have IC := keepW IC IM2 hk2 hne
  refine lv_icmp_eq (tgt := 1675) hx hb dL_law_1555 (by decide) (fun _ => ?_) (fun q => absurd rfl q)
  exact kk τc τm _ _ ⟨IC, IM2, hne, hR1⟩
theorem cs_40 (X : lawX gs b D cy p s m meth c) (V : lawV aC aM D cy s H locs σc σm) (S : lawP b L i xs s) (hl : lv_has ls 4 [(0, .ref b), (1, .ref (aC 0)), (2, .ref (aM 0)), (3, .int (nI i))]) (kk : ∀ (σc σm : Sg) (H : Heap) (locs : List Loc), lawV aC aM D cy s H locs σc σm → W p l e room_1 s m #[Value.ref b] below meth c H locs 75 2073 Q (F0 m 1675 ls [])) : W p l e room_1 s m #[Value.ref b] below meth c H locs 75 2073 Q (F0 m 1560 ls []) := by
  obtain ⟨hx, hb, hml, hown, hts, hK, hA, hXf⟩ := id X
  obtain ⟨IC, IM, hne, hR⟩ := V
  obtain ⟨r, τc, τm, e1, e2, hR1⟩ := eq_act hR (xs (i + 1)) (xs (i + 2)) (xs (i + 3))
  refine lv_aload_n hx hb dL_law_1560 rfl (lv_at hl 1 rfl) ?_
  refine arg_ (k := 1) hx hb S IC.2.2 hl (by omega) dL_law_1561 dL_law_1562 dL_law_1563 (by decide) dL_law_1564 dL_law_1565 ?_
  refine arg_ (k := 2) hx hb S IC.2.2 hl (by omega) dL_law_1566 dL_law_1567 dL_law_1568 (by decide) dL_law_1569 dL_law_1570 ?_
  refine arg_ (k := 3) hx hb S IC.2.2 hl (by omega) dL_law_1571 dL_law_1572 dL_law_1573 (by decide) dL_law_1574 dL_law_1575 ?_
  refine cG_ (k := 0) (nn := 3) (Xf2 := xfC gs) (rest := []) X xkC hXf.1 IC (c_C_act e1 _) gLB_act rfl ⟨rfl, rfl⟩ (by decide +kernel) ⟨Nat.le_of_ble_eq_true rfl, Nat.le_of_ble_eq_true rfl⟩ (by decide) shC_0 rfl rfl hl.1 rfl (Nat.le_of_ble_eq_true rfl) dL_law_1576 ⟨Nat.le_of_ble_eq_true rfl, Nat.le_of_ble_eq_true rfl⟩ (fun H1 locs1 IC1 hk1 => ?_)
  have IM := keepW IM IC1 hk1 (fun i j hi hj q => hne j i hj hi q.symm)
  clear hk1
  have IC := IC1
  refine lv_aload_n hx hb dL_law_1579 rfl (lv_at hl 2 rfl) ?_
  refine arg_ (k := 1) hx hb S IM.2.2 hl (by omega) dL_law_1580 dL_law_1581 dL_law_1582 (by decide) dL_law_1583 dL_law_1584 ?_
  refine arg_ (k := 2) hx hb S IM.2.2 hl (by omega) dL_law_1585 dL_law_1586 dL_law_1587 (by decide) dL_law_1588 dL_law_1589 ?_
  refine arg_ (k := 3) hx hb S IM.2.2 hl (by omega) dL_law_1590 dL_law_1591 dL_law_1592 (by decide) dL_law_1593 dL_law_1594 ?_
  refine cG_ (k := 0) (nn := 3) (Xf2 := xfM) (rest := [.int r]) X xkM trivial IM (c_M_act e2 _) (gLB gL_law_X12_act) rfl ⟨rfl, rfl⟩ (by decide +kernel) ⟨Nat.le_of_ble_eq_true rfl, Nat.le_of_ble_eq_true rfl⟩ (by decide) shM_0 rfl rfl hl.1 rfl (Nat.le_of_ble_eq_true rfl) dL_law_1595 ⟨Nat.le_of_ble_eq_true rfl, Nat.le_of_ble_eq_true rfl⟩ (fun H2 locs2 IM2 hk2 => ?_)
  have IC := keepW IC IM2 hk2 hne
  refine lv_icmp_eq (tgt := 1675) hx hb dL_law_1598 (by decide) (fun _ => ?_) (fun q => absurd rfl q)
  exact kk τc τm _ _ ⟨IC, IM2, hne, hR1⟩
theorem cs_41 (X : lawX gs b D cy p s m meth c) (V : lawV aC aM D cy s H locs σc σm) (S : lawP b L i xs s) (hl : lv_has ls 4 [(0, .ref b), (1, .ref (aC 0)), (2, .ref (aM 0)), (3, .int (nI i))]) (kk : ∀ (σc σm : Sg) (H : Heap) (locs : List Loc), lawV aC aM D cy s H locs σc σm → W p l e room_1 s m #[Value.ref b] below meth c H locs 75 2073 Q (F0 m 1675 ls [])) : W p l e room_1 s m #[Value.ref b] below meth c H locs 75 2073 Q (F0 m 1603 ls []) := by
  obtain ⟨hx, hb, hml, hown, hts, hK, hA, hXf⟩ := id X
  obtain ⟨IC, IM, hne, hR⟩ := V
  obtain ⟨r, τc, τm, e1, e2, hR1⟩ := eq_trace hR (xs (i + 1))
  refine lv_aload_n hx hb dL_law_1603 rfl (lv_at hl 1 rfl) ?_
  refine arg_ (k := 1) hx hb S IC.2.2 hl (by omega) dL_law_1604 dL_law_1605 dL_law_1606 (by decide) dL_law_1607 dL_law_1608 ?_
  refine cG_ (k := 0) (nn := 1) (Xf2 := xfC gs) (rest := []) X xkC hXf.1 IC (c_C_trace e1 _) (gLB gL_law_X11_trace) rfl ⟨rfl, rfl⟩ (by decide +kernel) ⟨Nat.le_of_ble_eq_true rfl, Nat.le_of_ble_eq_true rfl⟩ (by decide) shC_0 rfl rfl hl.1 rfl (Nat.le_of_ble_eq_true rfl) dL_law_1609 ⟨Nat.le_of_ble_eq_true rfl, Nat.le_of_ble_eq_true rfl⟩ (fun H1 locs1 IC1 hk1 => ?_)
  have IM := keepW IM IC1 hk1 (fun i j hi hj q => hne j i hj hi q.symm)
  clear hk1
  have IC := IC1
  refine lv_aload_n hx hb dL_law_1612 rfl (lv_at hl 2 rfl) ?_
  refine arg_ (k := 1) hx hb S IM.2.2 hl (by omega) dL_law_1613 dL_law_1614 dL_law_1615 (by decide) dL_law_1616 dL_law_1617 ?_
  refine cG_ (k := 0) (nn := 1) (Xf2 := xfM) (rest := [.int r]) X xkM trivial IM (c_M_trace e2 _) (gLB gL_law_X12_trace) rfl ⟨rfl, rfl⟩ (by decide +kernel) ⟨Nat.le_of_ble_eq_true rfl, Nat.le_of_ble_eq_true rfl⟩ (by decide) shM_0 rfl rfl hl.1 rfl (Nat.le_of_ble_eq_true rfl) dL_law_1618 ⟨Nat.le_of_ble_eq_true rfl, Nat.le_of_ble_eq_true rfl⟩ (fun H2 locs2 IM2 hk2 => ?_)
  have IC := keepW IC IM2 hk2 hne
  refine lv_icmp_eq (tgt := 1675) hx hb dL_law_1621 (by decide) (fun _ => ?_) (fun q => absurd rfl q)
  exact kk τc τm _ _ ⟨IC, IM2, hne, hR1⟩
theorem cs_42 (X : lawX gs b D cy p s m meth c) (V : lawV aC aM D cy s H locs σc σm) (S : lawP b L i xs s) (hl : lv_has ls 4 [(0, .ref b), (1, .ref (aC 0)), (2, .ref (aM 0)), (3, .int (nI i))]) (kk : ∀ (σc σm : Sg) (H : Heap) (locs : List Loc), lawV aC aM D cy s H locs σc σm → W p l e room_1 s m #[Value.ref b] below meth c H locs 75 2073 Q (F0 m 1675 ls [])) : W p l e room_1 s m #[Value.ref b] below meth c H locs 75 2073 Q (F0 m 1626 ls []) := by
  obtain ⟨hx, hb, hml, hown, hts, hK, hA, hXf⟩ := id X
  obtain ⟨IC, IM, hne, hR⟩ := V
  obtain ⟨r, τc, τm, e1, e2, hR1⟩ := eq_many hR (xs (i + 1))
  refine lv_aload_n hx hb dL_law_1626 rfl (lv_at hl 1 rfl) ?_
  refine arg_ (k := 1) hx hb S IC.2.2 hl (by omega) dL_law_1627 dL_law_1628 dL_law_1629 (by decide) dL_law_1630 dL_law_1631 ?_
  refine cG_ (k := 0) (nn := 1) (Xf2 := xfC gs) (rest := []) X xkC hXf.1 IC (c_C_many e1 _) (gLB gL_law_X11_many) rfl ⟨rfl, rfl⟩ (by decide +kernel) ⟨Nat.le_of_ble_eq_true rfl, Nat.le_of_ble_eq_true rfl⟩ (by decide) shC_0 rfl rfl hl.1 rfl (Nat.le_of_ble_eq_true rfl) dL_law_1632 ⟨Nat.le_of_ble_eq_true rfl, Nat.le_of_ble_eq_true rfl⟩ (fun H1 locs1 IC1 hk1 => ?_)
  have IM := keepW IM IC1 hk1 (fun i j hi hj q => hne j i hj hi q.symm)
  clear hk1
  have IC := IC1
  refine lv_aload_n hx hb dL_law_1635 rfl (lv_at hl 2 rfl) ?_
  refine arg_ (k := 1) hx hb S IM.2.2 hl (by omega) dL_law_1636 dL_law_1637 dL_law_1638 (by decide) dL_law_1639 dL_law_1640 ?_
  refine cG_ (k := 0) (nn := 1) (Xf2 := xfM) (rest := [.int r]) X xkM trivial IM (c_M_many e2 _) (gLB gL_law_X12_many) rfl ⟨rfl, rfl⟩ (by decide +kernel) ⟨Nat.le_of_ble_eq_true rfl, Nat.le_of_ble_eq_true rfl⟩ (by decide) shM_0 rfl rfl hl.1 rfl (Nat.le_of_ble_eq_true rfl) dL_law_1641 ⟨Nat.le_of_ble_eq_true rfl, Nat.le_of_ble_eq_true rfl⟩ (fun H2 locs2 IM2 hk2 => ?_)
  have IC := keepW IC IM2 hk2 hne
  refine lv_icmp_eq (tgt := 1675) hx hb dL_law_1644 (by decide) (fun _ => ?_) (fun q => absurd rfl q)
  exact kk τc τm _ _ ⟨IC, IM2, hne, hR1⟩
theorem cs_43 (X : lawX gs b D cy p s m meth c) (V : lawV aC aM D cy s H locs σc σm) (S : lawP b L i xs s) (hl : lv_has ls 4 [(0, .ref b), (1, .ref (aC 0)), (2, .ref (aM 0)), (3, .int (nI i))]) (kk : ∀ (σc σm : Sg) (H : Heap) (locs : List Loc), lawV aC aM D cy s H locs σc σm → W p l e room_1 s m #[Value.ref b] below meth c H locs 75 2073 Q (F0 m 1675 ls [])) : W p l e room_1 s m #[Value.ref b] below meth c H locs 75 2073 Q (F0 m 1649 ls []) := by
  obtain ⟨hx, hb, hml, hown, hts, hK, hA, hXf⟩ := id X
  obtain ⟨IC, IM, hne, hR⟩ := V
  obtain ⟨r, τc, τm, e1, e2, hR1⟩ := eq_keep hR 
  refine lv_aload_n hx hb dL_law_1649 rfl (lv_at hl 1 rfl) ?_
  refine cG_ (k := 0) (nn := 0) (Xf2 := xfC gs) (rest := []) X xkC hXf.1 IC (c_C_keep e1 _) (gLB gL_law_X11_keep) rfl ⟨rfl, rfl⟩ (by decide +kernel) ⟨Nat.le_of_ble_eq_true rfl, Nat.le_of_ble_eq_true rfl⟩ (by decide) shC_0 rfl rfl hl.1 rfl (Nat.le_of_ble_eq_true rfl) dL_law_1650 ⟨Nat.le_of_ble_eq_true rfl, Nat.le_of_ble_eq_true rfl⟩ (fun H1 locs1 IC1 hk1 => ?_)
  have IM := keepW IM IC1 hk1 (fun i j hi hj q => hne j i hj hi q.symm)
  clear hk1
  have IC := IC1
  refine lv_aload_n hx hb dL_law_1653 rfl (lv_at hl 2 rfl) ?_
  refine cG_ (k := 0) (nn := 0) (Xf2 := xfM) (rest := [.int r]) X xkM trivial IM (c_M_keep e2 _) (gLB gL_law_X12_keep) rfl ⟨rfl, rfl⟩ (by decide +kernel) ⟨Nat.le_of_ble_eq_true rfl, Nat.le_of_ble_eq_true rfl⟩ (by decide) shM_0 rfl rfl hl.1 rfl (Nat.le_of_ble_eq_true rfl) dL_law_1654 ⟨Nat.le_of_ble_eq_true rfl, Nat.le_of_ble_eq_true rfl⟩ (fun H2 locs2 IM2 hk2 => ?_)
  have IC := keepW IC IM2 hk2 hne
  refine lv_icmp_eq (tgt := 1675) hx hb dL_law_1657 (by decide) (fun _ => ?_) (fun q => absurd rfl q)
  exact kk τc τm _ _ ⟨IC, IM2, hne, hR1⟩
theorem cs_44 (X : lawX gs b D cy p s m meth c) (V : lawV aC aM D cy s H locs σc σm) (S : lawP b L i xs s) (hl : lv_has ls 4 [(0, .ref b), (1, .ref (aC 0)), (2, .ref (aM 0)), (3, .int (nI i))]) (kk : ∀ (σc σm : Sg) (H : Heap) (locs : List Loc), lawV aC aM D cy s H locs σc σm → W p l e room_1 s m #[Value.ref b] below meth c H locs 75 2073 Q (F0 m 1675 ls [])) : W p l e room_1 s m #[Value.ref b] below meth c H locs 75 2073 Q (F0 m 1662 ls []) := by
  obtain ⟨hx, hb, hml, hown, hts, hK, hA, hXf⟩ := id X
  obtain ⟨IC, IM, hne, hR⟩ := V
  obtain ⟨r, τc, τm, e1, e2, hR1⟩ := eq_again hR 
  refine lv_aload_n hx hb dL_law_1662 rfl (lv_at hl 1 rfl) ?_
  refine cG_ (k := 0) (nn := 0) (Xf2 := xfC gs) (rest := []) X xkC hXf.1 IC (c_C_again e1 _) (gLB gL_law_X11_again) rfl ⟨rfl, rfl⟩ (by decide +kernel) ⟨Nat.le_of_ble_eq_true rfl, Nat.le_of_ble_eq_true rfl⟩ (by decide) shC_0 rfl rfl hl.1 rfl (Nat.le_of_ble_eq_true rfl) dL_law_1663 ⟨Nat.le_of_ble_eq_true rfl, Nat.le_of_ble_eq_true rfl⟩ (fun H1 locs1 IC1 hk1 => ?_)
  have IM := keepW IM IC1 hk1 (fun i j hi hj q => hne j i hj hi q.symm)
  clear hk1
  have IC := IC1
  refine lv_aload_n hx hb dL_law_1666 rfl (lv_at hl 2 rfl) ?_
  refine cG_ (k := 0) (nn := 0) (Xf2 := xfM) (rest := [.int r]) X xkM trivial IM (c_M_again e2 _) (gLB gL_law_X12_again) rfl ⟨rfl, rfl⟩ (by decide +kernel) ⟨Nat.le_of_ble_eq_true rfl, Nat.le_of_ble_eq_true rfl⟩ (by decide) shM_0 rfl rfl hl.1 rfl (Nat.le_of_ble_eq_true rfl) dL_law_1667 ⟨Nat.le_of_ble_eq_true rfl, Nat.le_of_ble_eq_true rfl⟩ (fun H2 locs2 IM2 hk2 => ?_)
  have IC := keepW IC IM2 hk2 hne
  refine lv_icmp_eq (tgt := 1675) hx hb dL_law_1670 (by decide) (fun _ => ?_) (fun q => absurd rfl q)
  exact kk τc τm _ _ ⟨IC, IM2, hne, hR1⟩
end LAWC
