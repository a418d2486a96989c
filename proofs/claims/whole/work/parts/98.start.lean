/-! what the start gives -/
def tmS (i : Nat) : Term := .string RX8 (ixS.getD i 0)
set_option maxRecDepth 100000 in
theorem st_ex {args : Array Value} {s : State} (hs : ∀ c ∈ flatC (Jvm.Cond.and given_1 narrow_1), c.before args s = true) : ∀ i : Nat, i < 18 → (Cond.exactly (tmS i) "java/lang/String").before args s = true := by
  intro i hi
  match i, hi with
  | 0, _ => exact (hs _ (List.mem_of_getElem? (i := 357) rfl))
  | 1, _ => exact (hs _ (List.mem_of_getElem? (i := 380) rfl))
  | 2, _ => exact (hs _ (List.mem_of_getElem? (i := 402) rfl))
  | 3, _ => exact (hs _ (List.mem_of_getElem? (i := 259) rfl))
  | 4, _ => exact (hs _ (List.mem_of_getElem? (i := 275) rfl))
  | 5, _ => exact (hs _ (List.mem_of_getElem? (i := 295) rfl))
  | 6, _ => exact (hs _ (List.mem_of_getElem? (i := 315) rfl))
  | 7, _ => exact (hs _ (List.mem_of_getElem? (i := 336) rfl))
  | 8, _ => exact (hs _ (List.mem_of_getElem? (i := 124) rfl))
  | 9, _ => exact (hs _ (List.mem_of_getElem? (i := 133) rfl))
  | 10, _ => exact (hs _ (List.mem_of_getElem? (i := 142) rfl))
  | 11, _ => exact (hs _ (List.mem_of_getElem? (i := 154) rfl))
  | 12, _ => exact (hs _ (List.mem_of_getElem? (i := 167) rfl))
  | 13, _ => exact (hs _ (List.mem_of_getElem? (i := 183) rfl))
  | 14, _ => exact (hs _ (List.mem_of_getElem? (i := 196) rfl))
  | 15, _ => exact (hs _ (List.mem_of_getElem? (i := 211) rfl))
  | 16, _ => exact (hs _ (List.mem_of_getElem? (i := 226) rfl))
  | 17, _ => exact (hs _ (List.mem_of_getElem? (i := 242) rfl))
  | k + 18, hk => exact absurd hk (by omega)
set_option maxRecDepth 100000 in
theorem st_co {args : Array Value} {s : State} (hs : ∀ c ∈ flatC (Jvm.Cond.and given_1 narrow_1), c.before args s = true) : ∀ i : Nat, i < 18 → (Cond.eq (.field (tmS i) "java/lang/String" "coder" "B") (.int 0)).before args s = true := by
  intro i hi
  match i, hi with
  | 0, _ => exact (hs _ (List.mem_of_getElem? (i := 358) rfl))
  | 1, _ => exact (hs _ (List.mem_of_getElem? (i := 381) rfl))
  | 2, _ => exact (hs _ (List.mem_of_getElem? (i := 403) rfl))
  | 3, _ => exact (hs _ (List.mem_of_getElem? (i := 260) rfl))
  | 4, _ => exact (hs _ (List.mem_of_getElem? (i := 276) rfl))
  | 5, _ => exact (hs _ (List.mem_of_getElem? (i := 296) rfl))
  | 6, _ => exact (hs _ (List.mem_of_getElem? (i := 316) rfl))
  | 7, _ => exact (hs _ (List.mem_of_getElem? (i := 337) rfl))
  | 8, _ => exact (hs _ (List.mem_of_getElem? (i := 125) rfl))
  | 9, _ => exact (hs _ (List.mem_of_getElem? (i := 134) rfl))
  | 10, _ => exact (hs _ (List.mem_of_getElem? (i := 143) rfl))
  | 11, _ => exact (hs _ (List.mem_of_getElem? (i := 155) rfl))
  | 12, _ => exact (hs _ (List.mem_of_getElem? (i := 168) rfl))
  | 13, _ => exact (hs _ (List.mem_of_getElem? (i := 184) rfl))
  | 14, _ => exact (hs _ (List.mem_of_getElem? (i := 197) rfl))
  | 15, _ => exact (hs _ (List.mem_of_getElem? (i := 212) rfl))
  | 16, _ => exact (hs _ (List.mem_of_getElem? (i := 227) rfl))
  | 17, _ => exact (hs _ (List.mem_of_getElem? (i := 243) rfl))
  | k + 18, hk => exact absurd hk (by omega)
set_option maxRecDepth 100000 in
theorem st_ar {args : Array Value} {s : State} (hs : ∀ c ∈ flatC (Jvm.Cond.and given_1 narrow_1), c.before args s = true) : ∀ i : Nat, i < 18 → (Cond.arrayOf (.field (tmS i) "java/lang/String" "value" "[B") .byte).before args s = true := by
  intro i hi
  match i, hi with
  | 0, _ => exact (hs _ (List.mem_of_getElem? (i := 359) rfl))
  | 1, _ => exact (hs _ (List.mem_of_getElem? (i := 382) rfl))
  | 2, _ => exact (hs _ (List.mem_of_getElem? (i := 404) rfl))
  | 3, _ => exact (hs _ (List.mem_of_getElem? (i := 261) rfl))
  | 4, _ => exact (hs _ (List.mem_of_getElem? (i := 277) rfl))
  | 5, _ => exact (hs _ (List.mem_of_getElem? (i := 297) rfl))
  | 6, _ => exact (hs _ (List.mem_of_getElem? (i := 317) rfl))
  | 7, _ => exact (hs _ (List.mem_of_getElem? (i := 338) rfl))
  | 8, _ => exact (hs _ (List.mem_of_getElem? (i := 126) rfl))
  | 9, _ => exact (hs _ (List.mem_of_getElem? (i := 135) rfl))
  | 10, _ => exact (hs _ (List.mem_of_getElem? (i := 144) rfl))
  | 11, _ => exact (hs _ (List.mem_of_getElem? (i := 156) rfl))
  | 12, _ => exact (hs _ (List.mem_of_getElem? (i := 169) rfl))
  | 13, _ => exact (hs _ (List.mem_of_getElem? (i := 185) rfl))
  | 14, _ => exact (hs _ (List.mem_of_getElem? (i := 198) rfl))
  | 15, _ => exact (hs _ (List.mem_of_getElem? (i := 213) rfl))
  | 16, _ => exact (hs _ (List.mem_of_getElem? (i := 228) rfl))
  | 17, _ => exact (hs _ (List.mem_of_getElem? (i := 244) rfl))
  | k + 18, hk => exact absurd hk (by omega)
set_option maxRecDepth 100000 in
theorem st_le {args : Array Value} {s : State} (hs : ∀ c ∈ flatC (Jvm.Cond.and given_1 narrow_1), c.before args s = true) : ∀ i : Nat, i < 18 → (Cond.eq (.length (.field (tmS i) "java/lang/String" "value" "[B")) (.int (Int32.ofNat (lenS.getD i 0)))).before args s = true := by
  intro i hi
  match i, hi with
  | 0, _ => exact (hs _ (List.mem_of_getElem? (i := 360) rfl))
  | 1, _ => exact (hs _ (List.mem_of_getElem? (i := 383) rfl))
  | 2, _ => exact (hs _ (List.mem_of_getElem? (i := 405) rfl))
  | 3, _ => exact (hs _ (List.mem_of_getElem? (i := 262) rfl))
  | 4, _ => exact (hs _ (List.mem_of_getElem? (i := 278) rfl))
  | 5, _ => exact (hs _ (List.mem_of_getElem? (i := 298) rfl))
  | 6, _ => exact (hs _ (List.mem_of_getElem? (i := 318) rfl))
  | 7, _ => exact (hs _ (List.mem_of_getElem? (i := 339) rfl))
  | 8, _ => exact (hs _ (List.mem_of_getElem? (i := 127) rfl))
  | 9, _ => exact (hs _ (List.mem_of_getElem? (i := 136) rfl))
  | 10, _ => exact (hs _ (List.mem_of_getElem? (i := 145) rfl))
  | 11, _ => exact (hs _ (List.mem_of_getElem? (i := 157) rfl))
  | 12, _ => exact (hs _ (List.mem_of_getElem? (i := 170) rfl))
  | 13, _ => exact (hs _ (List.mem_of_getElem? (i := 186) rfl))
  | 14, _ => exact (hs _ (List.mem_of_getElem? (i := 199) rfl))
  | 15, _ => exact (hs _ (List.mem_of_getElem? (i := 214) rfl))
  | 16, _ => exact (hs _ (List.mem_of_getElem? (i := 229) rfl))
  | 17, _ => exact (hs _ (List.mem_of_getElem? (i := 245) rfl))
  | k + 18, hk => exact absurd hk (by omega)
set_option maxRecDepth 100000 in
theorem st_el {args : Array Value} {s : State} (hs : ∀ c ∈ flatC (Jvm.Cond.and given_1 narrow_1), c.before args s = true) : ∀ i : Nat, i < 18 → ∀ j : Nat, j < lenS.getD i 0 → (Cond.eq (.elem (.field (tmS i) "java/lang/String" "value" "[B") (.int (Int32.ofNat j))) (.int ((bytS.getD i []).getD j 0))).before args s = true := by
  intro i hi j hj
  match i, hi with
  | 0, _ =>
    match j, hj with
    | 0, _ => exact (hs _ (List.mem_of_getElem? (i := 361) rfl))
    | 1, _ => exact (hs _ (List.mem_of_getElem? (i := 362) rfl))
    | 2, _ => exact (hs _ (List.mem_of_getElem? (i := 363) rfl))
    | 3, _ => exact (hs _ (List.mem_of_getElem? (i := 364) rfl))
    | q + 4, hq => exact absurd (show q + 4 < 4 from hq) (by omega)
  | 1, _ =>
    match j, hj with
    | 0, _ => exact (hs _ (List.mem_of_getElem? (i := 384) rfl))
    | 1, _ => exact (hs _ (List.mem_of_getElem? (i := 385) rfl))
    | q + 2, hq => exact absurd (show q + 2 < 2 from hq) (by omega)
  | 2, _ =>
    match j, hj with
    | 0, _ => exact (hs _ (List.mem_of_getElem? (i := 406) rfl))
    | 1, _ => exact (hs _ (List.mem_of_getElem? (i := 407) rfl))
    | 2, _ => exact (hs _ (List.mem_of_getElem? (i := 408) rfl))
    | 3, _ => exact (hs _ (List.mem_of_getElem? (i := 409) rfl))
    | q + 4, hq => exact absurd (show q + 4 < 4 from hq) (by omega)
  | 3, _ =>
    match j, hj with
    | 0, _ => exact (hs _ (List.mem_of_getElem? (i := 263) rfl))
    | 1, _ => exact (hs _ (List.mem_of_getElem? (i := 264) rfl))
    | q + 2, hq => exact absurd (show q + 2 < 2 from hq) (by omega)
  | 4, _ =>
    match j, hj with
    | 0, _ => exact (hs _ (List.mem_of_getElem? (i := 279) rfl))
    | 1, _ => exact (hs _ (List.mem_of_getElem? (i := 280) rfl))
    | 2, _ => exact (hs _ (List.mem_of_getElem? (i := 281) rfl))
    | 3, _ => exact (hs _ (List.mem_of_getElem? (i := 282) rfl))
    | 4, _ => exact (hs _ (List.mem_of_getElem? (i := 283) rfl))
    | q + 5, hq => exact absurd (show q + 5 < 5 from hq) (by omega)
  | 5, _ =>
    match j, hj with
    | 0, _ => exact (hs _ (List.mem_of_getElem? (i := 299) rfl))
    | 1, _ => exact (hs _ (List.mem_of_getElem? (i := 300) rfl))
    | 2, _ => exact (hs _ (List.mem_of_getElem? (i := 301) rfl))
    | 3, _ => exact (hs _ (List.mem_of_getElem? (i := 302) rfl))
    | q + 4, hq => exact absurd (show q + 4 < 4 from hq) (by omega)
  | 6, _ =>
    match j, hj with
    | 0, _ => exact (hs _ (List.mem_of_getElem? (i := 319) rfl))
    | 1, _ => exact (hs _ (List.mem_of_getElem? (i := 320) rfl))
    | 2, _ => exact (hs _ (List.mem_of_getElem? (i := 321) rfl))
    | 3, _ => exact (hs _ (List.mem_of_getElem? (i := 322) rfl))
    | q + 4, hq => exact absurd (show q + 4 < 4 from hq) (by omega)
  | 7, _ =>
    match j, hj with
    | 0, _ => exact (hs _ (List.mem_of_getElem? (i := 340) rfl))
    | 1, _ => exact (hs _ (List.mem_of_getElem? (i := 341) rfl))
    | 2, _ => exact (hs _ (List.mem_of_getElem? (i := 342) rfl))
    | q + 3, hq => exact absurd (show q + 3 < 3 from hq) (by omega)
  | 8, _ =>
    match j, hj with
    | 0, _ => exact (hs _ (List.mem_of_getElem? (i := 128) rfl))
    | 1, _ => exact (hs _ (List.mem_of_getElem? (i := 129) rfl))
    | 2, _ => exact (hs _ (List.mem_of_getElem? (i := 130) rfl))
    | 3, _ => exact (hs _ (List.mem_of_getElem? (i := 131) rfl))
    | 4, _ => exact (hs _ (List.mem_of_getElem? (i := 132) rfl))
    | q + 5, hq => exact absurd (show q + 5 < 5 from hq) (by omega)
  | 9, _ =>
    match j, hj with
    | 0, _ => exact (hs _ (List.mem_of_getElem? (i := 137) rfl))
    | 1, _ => exact (hs _ (List.mem_of_getElem? (i := 138) rfl))
    | 2, _ => exact (hs _ (List.mem_of_getElem? (i := 139) rfl))
    | 3, _ => exact (hs _ (List.mem_of_getElem? (i := 140) rfl))
    | q + 4, hq => exact absurd (show q + 4 < 4 from hq) (by omega)
  | 10, _ =>
    match j, hj with
    | 0, _ => exact (hs _ (List.mem_of_getElem? (i := 146) rfl))
    | 1, _ => exact (hs _ (List.mem_of_getElem? (i := 147) rfl))
    | 2, _ => exact (hs _ (List.mem_of_getElem? (i := 148) rfl))
    | 3, _ => exact (hs _ (List.mem_of_getElem? (i := 149) rfl))
    | 4, _ => exact (hs _ (List.mem_of_getElem? (i := 150) rfl))
    | 5, _ => exact (hs _ (List.mem_of_getElem? (i := 151) rfl))
    | q + 6, hq => exact absurd (show q + 6 < 6 from hq) (by omega)
  | 11, _ =>
    match j, hj with
    | 0, _ => exact (hs _ (List.mem_of_getElem? (i := 158) rfl))
    | 1, _ => exact (hs _ (List.mem_of_getElem? (i := 159) rfl))
    | 2, _ => exact (hs _ (List.mem_of_getElem? (i := 160) rfl))
    | 3, _ => exact (hs _ (List.mem_of_getElem? (i := 161) rfl))
    | 4, _ => exact (hs _ (List.mem_of_getElem? (i := 162) rfl))
    | 5, _ => exact (hs _ (List.mem_of_getElem? (i := 163) rfl))
    | q + 6, hq => exact absurd (show q + 6 < 6 from hq) (by omega)
  | 12, _ =>
    match j, hj with
    | 0, _ => exact (hs _ (List.mem_of_getElem? (i := 171) rfl))
    | 1, _ => exact (hs _ (List.mem_of_getElem? (i := 172) rfl))
    | 2, _ => exact (hs _ (List.mem_of_getElem? (i := 173) rfl))
    | 3, _ => exact (hs _ (List.mem_of_getElem? (i := 174) rfl))
    | 4, _ => exact (hs _ (List.mem_of_getElem? (i := 175) rfl))
    | 5, _ => exact (hs _ (List.mem_of_getElem? (i := 176) rfl))
    | 6, _ => exact (hs _ (List.mem_of_getElem? (i := 177) rfl))
    | 7, _ => exact (hs _ (List.mem_of_getElem? (i := 178) rfl))
    | q + 8, hq => exact absurd (show q + 8 < 8 from hq) (by omega)
  | 13, _ =>
    match j, hj with
    | 0, _ => exact (hs _ (List.mem_of_getElem? (i := 187) rfl))
    | 1, _ => exact (hs _ (List.mem_of_getElem? (i := 188) rfl))
    | 2, _ => exact (hs _ (List.mem_of_getElem? (i := 189) rfl))
    | 3, _ => exact (hs _ (List.mem_of_getElem? (i := 190) rfl))
    | q + 4, hq => exact absurd (show q + 4 < 4 from hq) (by omega)
  | 14, _ =>
    match j, hj with
    | 0, _ => exact (hs _ (List.mem_of_getElem? (i := 200) rfl))
    | 1, _ => exact (hs _ (List.mem_of_getElem? (i := 201) rfl))
    | 2, _ => exact (hs _ (List.mem_of_getElem? (i := 202) rfl))
    | 3, _ => exact (hs _ (List.mem_of_getElem? (i := 203) rfl))
    | 4, _ => exact (hs _ (List.mem_of_getElem? (i := 204) rfl))
    | q + 5, hq => exact absurd (show q + 5 < 5 from hq) (by omega)
  | 15, _ =>
    match j, hj with
    | 0, _ => exact (hs _ (List.mem_of_getElem? (i := 215) rfl))
    | 1, _ => exact (hs _ (List.mem_of_getElem? (i := 216) rfl))
    | 2, _ => exact (hs _ (List.mem_of_getElem? (i := 217) rfl))
    | 3, _ => exact (hs _ (List.mem_of_getElem? (i := 218) rfl))
    | q + 4, hq => exact absurd (show q + 4 < 4 from hq) (by omega)
  | 16, _ =>
    match j, hj with
    | 0, _ => exact (hs _ (List.mem_of_getElem? (i := 230) rfl))
    | 1, _ => exact (hs _ (List.mem_of_getElem? (i := 231) rfl))
    | 2, _ => exact (hs _ (List.mem_of_getElem? (i := 232) rfl))
    | 3, _ => exact (hs _ (List.mem_of_getElem? (i := 233) rfl))
    | q + 4, hq => exact absurd (show q + 4 < 4 from hq) (by omega)
  | 17, _ =>
    match j, hj with
    | 0, _ => exact (hs _ (List.mem_of_getElem? (i := 246) rfl))
    | 1, _ => exact (hs _ (List.mem_of_getElem? (i := 247) rfl))
    | 2, _ => exact (hs _ (List.mem_of_getElem? (i := 248) rfl))
    | 3, _ => exact (hs _ (List.mem_of_getElem? (i := 249) rfl))
    | q + 4, hq => exact absurd (show q + 4 < 4 from hq) (by omega)
  | k + 18, hk => exact absurd hk (by omega)
set_option maxRecDepth 100000 in
theorem st_ne0 {args : Array Value} {s : State} (hs : ∀ c ∈ flatC (Jvm.Cond.and given_1 narrow_1), c.before args s = true) : ∀ i : Nat, i < 18 → ∀ j : Nat, j < i → (Cond.not (Cond.eq (tmS i) (tmS j))).before args s = true ∨ (Cond.not (Cond.eq (tmS j) (tmS i))).before args s = true := by
  intro i hi j hj
  match i, hi with
  | 0, _ =>
    match j, hj with
    | q + 0, hq => exact absurd hq (by omega)
  | 1, _ =>
    match j, hj with
    | 0, _ => exact Or.inr (hs _ (List.mem_of_getElem? (i := 401) rfl))
    | q + 1, hq => exact absurd hq (by omega)
  | 2, _ =>
    match j, hj with
    | 0, _ => exact Or.inr (hs _ (List.mem_of_getElem? (i := 425) rfl))
    | 1, _ => exact Or.inr (hs _ (List.mem_of_getElem? (i := 426) rfl))
    | q + 2, hq => exact absurd hq (by omega)
  | 3, _ =>
    match j, hj with
    | 0, _ => exact Or.inl (hs _ (List.mem_of_getElem? (i := 375) rfl))
    | 1, _ => exact Or.inl (hs _ (List.mem_of_getElem? (i := 396) rfl))
    | 2, _ => exact Or.inl (hs _ (List.mem_of_getElem? (i := 420) rfl))
    | q + 3, hq => exact absurd hq (by omega)
  | 4, _ =>
    match j, hj with
    | 0, _ => exact Or.inl (hs _ (List.mem_of_getElem? (i := 376) rfl))
    | 1, _ => exact Or.inl (hs _ (List.mem_of_getElem? (i := 397) rfl))
    | 2, _ => exact Or.inl (hs _ (List.mem_of_getElem? (i := 421) rfl))
    | 3, _ => exact Or.inr (hs _ (List.mem_of_getElem? (i := 294) rfl))
    | q + 4, hq => exact absurd hq (by omega)
  | 5, _ =>
    match j, hj with
    | 0, _ => exact Or.inl (hs _ (List.mem_of_getElem? (i := 377) rfl))
    | 1, _ => exact Or.inl (hs _ (List.mem_of_getElem? (i := 398) rfl))
    | 2, _ => exact Or.inl (hs _ (List.mem_of_getElem? (i := 422) rfl))
    | 3, _ => exact Or.inr (hs _ (List.mem_of_getElem? (i := 313) rfl))
    | 4, _ => exact Or.inr (hs _ (List.mem_of_getElem? (i := 314) rfl))
    | q + 5, hq => exact absurd hq (by omega)
  | 6, _ =>
    match j, hj with
    | 0, _ => exact Or.inl (hs _ (List.mem_of_getElem? (i := 378) rfl))
    | 1, _ => exact Or.inl (hs _ (List.mem_of_getElem? (i := 399) rfl))
    | 2, _ => exact Or.inl (hs _ (List.mem_of_getElem? (i := 423) rfl))
    | 3, _ => exact Or.inr (hs _ (List.mem_of_getElem? (i := 333) rfl))
    | 4, _ => exact Or.inr (hs _ (List.mem_of_getElem? (i := 334) rfl))
    | 5, _ => exact Or.inr (hs _ (List.mem_of_getElem? (i := 335) rfl))
    | q + 6, hq => exact absurd hq (by omega)
  | 7, _ =>
    match j, hj with
    | 0, _ => exact Or.inl (hs _ (List.mem_of_getElem? (i := 379) rfl))
    | 1, _ => exact Or.inl (hs _ (List.mem_of_getElem? (i := 400) rfl))
    | 2, _ => exact Or.inl (hs _ (List.mem_of_getElem? (i := 424) rfl))
    | 3, _ => exact Or.inr (hs _ (List.mem_of_getElem? (i := 353) rfl))
    | 4, _ => exact Or.inr (hs _ (List.mem_of_getElem? (i := 354) rfl))
    | 5, _ => exact Or.inr (hs _ (List.mem_of_getElem? (i := 355) rfl))
    | 6, _ => exact Or.inr (hs _ (List.mem_of_getElem? (i := 356) rfl))
    | q + 7, hq => exact absurd hq (by omega)
  | 8, _ =>
    match j, hj with
    | 0, _ => exact Or.inl (hs _ (List.mem_of_getElem? (i := 365) rfl))
    | 1, _ => exact Or.inl (hs _ (List.mem_of_getElem? (i := 386) rfl))
    | 2, _ => exact Or.inl (hs _ (List.mem_of_getElem? (i := 410) rfl))
    | 3, _ => exact Or.inl (hs _ (List.mem_of_getElem? (i := 265) rfl))
    | 4, _ => exact Or.inl (hs _ (List.mem_of_getElem? (i := 284) rfl))
    | 5, _ => exact Or.inl (hs _ (List.mem_of_getElem? (i := 303) rfl))
    | 6, _ => exact Or.inl (hs _ (List.mem_of_getElem? (i := 323) rfl))
    | 7, _ => exact Or.inl (hs _ (List.mem_of_getElem? (i := 343) rfl))
    | q + 8, hq => exact absurd hq (by omega)
  | 9, _ =>
    match j, hj with
    | 0, _ => exact Or.inl (hs _ (List.mem_of_getElem? (i := 366) rfl))
    | 1, _ => exact Or.inl (hs _ (List.mem_of_getElem? (i := 387) rfl))
    | 2, _ => exact Or.inl (hs _ (List.mem_of_getElem? (i := 411) rfl))
    | 3, _ => exact Or.inl (hs _ (List.mem_of_getElem? (i := 266) rfl))
    | 4, _ => exact Or.inl (hs _ (List.mem_of_getElem? (i := 285) rfl))
    | 5, _ => exact Or.inl (hs _ (List.mem_of_getElem? (i := 304) rfl))
    | 6, _ => exact Or.inl (hs _ (List.mem_of_getElem? (i := 324) rfl))
    | 7, _ => exact Or.inl (hs _ (List.mem_of_getElem? (i := 344) rfl))
    | 8, _ => exact Or.inr (hs _ (List.mem_of_getElem? (i := 141) rfl))
    | q + 9, hq => exact absurd hq (by omega)
  | 10, _ =>
    match j, hj with
    | 0, _ => exact Or.inl (hs _ (List.mem_of_getElem? (i := 367) rfl))
    | 1, _ => exact Or.inl (hs _ (List.mem_of_getElem? (i := 388) rfl))
    | 2, _ => exact Or.inl (hs _ (List.mem_of_getElem? (i := 412) rfl))
    | 3, _ => exact Or.inl (hs _ (List.mem_of_getElem? (i := 267) rfl))
    | 4, _ => exact Or.inl (hs _ (List.mem_of_getElem? (i := 286) rfl))
    | 5, _ => exact Or.inl (hs _ (List.mem_of_getElem? (i := 305) rfl))
    | 6, _ => exact Or.inl (hs _ (List.mem_of_getElem? (i := 325) rfl))
    | 7, _ => exact Or.inl (hs _ (List.mem_of_getElem? (i := 345) rfl))
    | 8, _ => exact Or.inr (hs _ (List.mem_of_getElem? (i := 152) rfl))
    | 9, _ => exact Or.inr (hs _ (List.mem_of_getElem? (i := 153) rfl))
    | q + 10, hq => exact absurd hq (by omega)
  | 11, _ =>
    match j, hj with
    | 0, _ => exact Or.inl (hs _ (List.mem_of_getElem? (i := 368) rfl))
    | 1, _ => exact Or.inl (hs _ (List.mem_of_getElem? (i := 389) rfl))
    | 2, _ => exact Or.inl (hs _ (List.mem_of_getElem? (i := 413) rfl))
    | 3, _ => exact Or.inl (hs _ (List.mem_of_getElem? (i := 268) rfl))
    | 4, _ => exact Or.inl (hs _ (List.mem_of_getElem? (i := 287) rfl))
    | 5, _ => exact Or.inl (hs _ (List.mem_of_getElem? (i := 306) rfl))
    | 6, _ => exact Or.inl (hs _ (List.mem_of_getElem? (i := 326) rfl))
    | 7, _ => exact Or.inl (hs _ (List.mem_of_getElem? (i := 346) rfl))
    | 8, _ => exact Or.inr (hs _ (List.mem_of_getElem? (i := 164) rfl))
    | 9, _ => exact Or.inr (hs _ (List.mem_of_getElem? (i := 165) rfl))
    | 10, _ => exact Or.inr (hs _ (List.mem_of_getElem? (i := 166) rfl))
    | q + 11, hq => exact absurd hq (by omega)
  | 12, _ =>
    match j, hj with
    | 0, _ => exact Or.inl (hs _ (List.mem_of_getElem? (i := 369) rfl))
    | 1, _ => exact Or.inl (hs _ (List.mem_of_getElem? (i := 390) rfl))
    | 2, _ => exact Or.inl (hs _ (List.mem_of_getElem? (i := 414) rfl))
    | 3, _ => exact Or.inl (hs _ (List.mem_of_getElem? (i := 269) rfl))
    | 4, _ => exact Or.inl (hs _ (List.mem_of_getElem? (i := 288) rfl))
    | 5, _ => exact Or.inl (hs _ (List.mem_of_getElem? (i := 307) rfl))
    | 6, _ => exact Or.inl (hs _ (List.mem_of_getElem? (i := 327) rfl))
    | 7, _ => exact Or.inl (hs _ (List.mem_of_getElem? (i := 347) rfl))
    | 8, _ => exact Or.inr (hs _ (List.mem_of_getElem? (i := 179) rfl))
    | 9, _ => exact Or.inr (hs _ (List.mem_of_getElem? (i := 180) rfl))
    | 10, _ => exact Or.inr (hs _ (List.mem_of_getElem? (i := 181) rfl))
    | 11, _ => exact Or.inr (hs _ (List.mem_of_getElem? (i := 182) rfl))
    | q + 12, hq => exact absurd hq (by omega)
  | 13, _ =>
    match j, hj with
    | 0, _ => exact Or.inl (hs _ (List.mem_of_getElem? (i := 370) rfl))
    | 1, _ => exact Or.inl (hs _ (List.mem_of_getElem? (i := 391) rfl))
    | 2, _ => exact Or.inl (hs _ (List.mem_of_getElem? (i := 415) rfl))
    | 3, _ => exact Or.inl (hs _ (List.mem_of_getElem? (i := 270) rfl))
    | 4, _ => exact Or.inl (hs _ (List.mem_of_getElem? (i := 289) rfl))
    | 5, _ => exact Or.inl (hs _ (List.mem_of_getElem? (i := 308) rfl))
    | 6, _ => exact Or.inl (hs _ (List.mem_of_getElem? (i := 328) rfl))
    | 7, _ => exact Or.inl (hs _ (List.mem_of_getElem? (i := 348) rfl))
    | 8, _ => exact Or.inr (hs _ (List.mem_of_getElem? (i := 191) rfl))
    | 9, _ => exact Or.inr (hs _ (List.mem_of_getElem? (i := 192) rfl))
    | 10, _ => exact Or.inr (hs _ (List.mem_of_getElem? (i := 193) rfl))
    | 11, _ => exact Or.inr (hs _ (List.mem_of_getElem? (i := 194) rfl))
    | 12, _ => exact Or.inr (hs _ (List.mem_of_getElem? (i := 195) rfl))
    | q + 13, hq => exact absurd hq (by omega)
  | 14, _ =>
    match j, hj with
    | 0, _ => exact Or.inl (hs _ (List.mem_of_getElem? (i := 371) rfl))
    | 1, _ => exact Or.inl (hs _ (List.mem_of_getElem? (i := 392) rfl))
    | 2, _ => exact Or.inl (hs _ (List.mem_of_getElem? (i := 416) rfl))
    | 3, _ => exact Or.inl (hs _ (List.mem_of_getElem? (i := 271) rfl))
    | 4, _ => exact Or.inl (hs _ (List.mem_of_getElem? (i := 290) rfl))
    | 5, _ => exact Or.inl (hs _ (List.mem_of_getElem? (i := 309) rfl))
    | 6, _ => exact Or.inl (hs _ (List.mem_of_getElem? (i := 329) rfl))
    | 7, _ => exact Or.inl (hs _ (List.mem_of_getElem? (i := 349) rfl))
    | 8, _ => exact Or.inr (hs _ (List.mem_of_getElem? (i := 205) rfl))
    | 9, _ => exact Or.inr (hs _ (List.mem_of_getElem? (i := 206) rfl))
    | 10, _ => exact Or.inr (hs _ (List.mem_of_getElem? (i := 207) rfl))
    | 11, _ => exact Or.inr (hs _ (List.mem_of_getElem? (i := 208) rfl))
    | 12, _ => exact Or.inr (hs _ (List.mem_of_getElem? (i := 209) rfl))
    | 13, _ => exact Or.inr (hs _ (List.mem_of_getElem? (i := 210) rfl))
    | q + 14, hq => exact absurd hq (by omega)
  | 15, _ =>
    match j, hj with
    | 0, _ => exact Or.inl (hs _ (List.mem_of_getElem? (i := 372) rfl))
    | 1, _ => exact Or.inl (hs _ (List.mem_of_getElem? (i := 393) rfl))
    | 2, _ => exact Or.inl (hs _ (List.mem_of_getElem? (i := 417) rfl))
    | 3, _ => exact Or.inl (hs _ (List.mem_of_getElem? (i := 272) rfl))
    | 4, _ => exact Or.inl (hs _ (List.mem_of_getElem? (i := 291) rfl))
    | 5, _ => exact Or.inl (hs _ (List.mem_of_getElem? (i := 310) rfl))
    | 6, _ => exact Or.inl (hs _ (List.mem_of_getElem? (i := 330) rfl))
    | 7, _ => exact Or.inl (hs _ (List.mem_of_getElem? (i := 350) rfl))
    | 8, _ => exact Or.inr (hs _ (List.mem_of_getElem? (i := 219) rfl))
    | 9, _ => exact Or.inr (hs _ (List.mem_of_getElem? (i := 220) rfl))
    | 10, _ => exact Or.inr (hs _ (List.mem_of_getElem? (i := 221) rfl))
    | 11, _ => exact Or.inr (hs _ (List.mem_of_getElem? (i := 222) rfl))
    | 12, _ => exact Or.inr (hs _ (List.mem_of_getElem? (i := 223) rfl))
    | 13, _ => exact Or.inr (hs _ (List.mem_of_getElem? (i := 224) rfl))
    | 14, _ => exact Or.inr (hs _ (List.mem_of_getElem? (i := 225) rfl))
    | q + 15, hq => exact absurd hq (by omega)
  | 16, _ =>
    match j, hj with
    | 0, _ => exact Or.inl (hs _ (List.mem_of_getElem? (i := 373) rfl))
    | 1, _ => exact Or.inl (hs _ (List.mem_of_getElem? (i := 394) rfl))
    | 2, _ => exact Or.inl (hs _ (List.mem_of_getElem? (i := 418) rfl))
    | 3, _ => exact Or.inl (hs _ (List.mem_of_getElem? (i := 273) rfl))
    | 4, _ => exact Or.inl (hs _ (List.mem_of_getElem? (i := 292) rfl))
    | 5, _ => exact Or.inl (hs _ (List.mem_of_getElem? (i := 311) rfl))
    | 6, _ => exact Or.inl (hs _ (List.mem_of_getElem? (i := 331) rfl))
    | 7, _ => exact Or.inl (hs _ (List.mem_of_getElem? (i := 351) rfl))
    | 8, _ => exact Or.inr (hs _ (List.mem_of_getElem? (i := 234) rfl))
    | 9, _ => exact Or.inr (hs _ (List.mem_of_getElem? (i := 235) rfl))
    | 10, _ => exact Or.inr (hs _ (List.mem_of_getElem? (i := 236) rfl))
    | 11, _ => exact Or.inr (hs _ (List.mem_of_getElem? (i := 237) rfl))
    | 12, _ => exact Or.inr (hs _ (List.mem_of_getElem? (i := 238) rfl))
    | 13, _ => exact Or.inr (hs _ (List.mem_of_getElem? (i := 239) rfl))
    | 14, _ => exact Or.inr (hs _ (List.mem_of_getElem? (i := 240) rfl))
    | 15, _ => exact Or.inr (hs _ (List.mem_of_getElem? (i := 241) rfl))
    | q + 16, hq => exact absurd hq (by omega)
  | 17, _ =>
    match j, hj with
    | 0, _ => exact Or.inl (hs _ (List.mem_of_getElem? (i := 374) rfl))
    | 1, _ => exact Or.inl (hs _ (List.mem_of_getElem? (i := 395) rfl))
    | 2, _ => exact Or.inl (hs _ (List.mem_of_getElem? (i := 419) rfl))
    | 3, _ => exact Or.inl (hs _ (List.mem_of_getElem? (i := 274) rfl))
    | 4, _ => exact Or.inl (hs _ (List.mem_of_getElem? (i := 293) rfl))
    | 5, _ => exact Or.inl (hs _ (List.mem_of_getElem? (i := 312) rfl))
    | 6, _ => exact Or.inl (hs _ (List.mem_of_getElem? (i := 332) rfl))
    | 7, _ => exact Or.inl (hs _ (List.mem_of_getElem? (i := 352) rfl))
    | 8, _ => exact Or.inr (hs _ (List.mem_of_getElem? (i := 250) rfl))
    | 9, _ => exact Or.inr (hs _ (List.mem_of_getElem? (i := 251) rfl))
    | 10, _ => exact Or.inr (hs _ (List.mem_of_getElem? (i := 252) rfl))
    | 11, _ => exact Or.inr (hs _ (List.mem_of_getElem? (i := 253) rfl))
    | 12, _ => exact Or.inr (hs _ (List.mem_of_getElem? (i := 254) rfl))
    | 13, _ => exact Or.inr (hs _ (List.mem_of_getElem? (i := 255) rfl))
    | 14, _ => exact Or.inr (hs _ (List.mem_of_getElem? (i := 256) rfl))
    | 15, _ => exact Or.inr (hs _ (List.mem_of_getElem? (i := 257) rfl))
    | 16, _ => exact Or.inr (hs _ (List.mem_of_getElem? (i := 258) rfl))
    | q + 17, hq => exact absurd hq (by omega)
  | k + 18, hk => exact absurd hk (by omega)
set_option maxRecDepth 100000 in
theorem st_rf {args : Array Value} {s : State} (hts : ∀ w ∈ lw_tbl, w.before args s = true) : ∀ i : Nat, i < 18 → (Cond.stringRef RX8 (ixS.getD i 0) (txS.getD i "")).before args s = true := by
  intro i hi
  match i, hi with
  | 0, _ => exact (hts _ (List.mem_of_getElem? (i := 514) rfl))
  | 1, _ => exact (hts _ (List.mem_of_getElem? (i := 515) rfl))
  | 2, _ => exact (hts _ (List.mem_of_getElem? (i := 516) rfl))
  | 3, _ => exact (hts _ (List.mem_of_getElem? (i := 487) rfl))
  | 4, _ => exact (hts _ (List.mem_of_getElem? (i := 500) rfl))
  | 5, _ => exact (hts _ (List.mem_of_getElem? (i := 505) rfl))
  | 6, _ => exact (hts _ (List.mem_of_getElem? (i := 510) rfl))
  | 7, _ => exact (hts _ (List.mem_of_getElem? (i := 511) rfl))
  | 8, _ => exact (hts _ (List.mem_of_getElem? (i := 401) rfl))
  | 9, _ => exact (hts _ (List.mem_of_getElem? (i := 454) rfl))
  | 10, _ => exact (hts _ (List.mem_of_getElem? (i := 455) rfl))
  | 11, _ => exact (hts _ (List.mem_of_getElem? (i := 456) rfl))
  | 12, _ => exact (hts _ (List.mem_of_getElem? (i := 457) rfl))
  | 13, _ => exact (hts _ (List.mem_of_getElem? (i := 458) rfl))
  | 14, _ => exact (hts _ (List.mem_of_getElem? (i := 463) rfl))
  | 15, _ => exact (hts _ (List.mem_of_getElem? (i := 464) rfl))
  | 16, _ => exact (hts _ (List.mem_of_getElem? (i := 465) rfl))
  | 17, _ => exact (hts _ (List.mem_of_getElem? (i := 466) rfl))
  | k + 18, hk => exact absurd hk (by omega)
set_option maxRecDepth 100000 in
theorem ar_lmA {args : Array Value} {s : State} (hs : ∀ c ∈ flatC (Jvm.Cond.and given_1 narrow_1), c.before args s = true) (hts : ∀ w ∈ lw_tbl, w.before args s = true) : ∃ t : Nat, va_Z "BoundGodmothers" "LAW_MOST" "[I" (.ref t) (fun q => s.heap.size ≤ q) s s.heap ∧ va_T .int t 4 (fun j => .int (lmA j)) (fun q => s.heap.size ≤ q) s s.heap := by
  have hel : ∀ j : Nat, j < 4 → (Cond.eq (.elem (.static "BoundGodmothers" "LAW_MOST" "[I") (.int (Int32.ofNat j))) (.int (lmA j))).before args s = true := by
    intro j hj
    match j, hj with
    | 0, _ => exact (hs _ (List.mem_of_getElem? (i := 19) rfl))
    | 1, _ => exact (hs _ (List.mem_of_getElem? (i := 20) rfl))
    | 2, _ => exact (hs _ (List.mem_of_getElem? (i := 21) rfl))
    | 3, _ => exact (hs _ (List.mem_of_getElem? (i := 22) rfl))
    | k + 4, hk => exact absurd hk (by omega)
  obtain ⟨t, ht, hT⟩ := va_Tof (N := 4) (f := fun j => .int (lmA j)) (A := fun q => s.heap.size ≤ q) (by omega) (hs _ (List.mem_of_getElem? (i := 17) rfl)) (va_eqt (hs _ (List.mem_of_getElem? (i := 18) rfl))) (fun j hj => va_eqt (hel j hj)) (fun _ h => Nat.not_le.mpr h)
  exact ⟨t, va_Zref (hts _ (List.mem_of_getElem? (i := 513) rfl)) (hts _ (List.mem_of_getElem? (i := 81) rfl)) ht (fun _ h => Nat.not_le.mpr h), hT⟩
set_option maxRecDepth 100000 in
theorem ar_lfA {args : Array Value} {s : State} (hs : ∀ c ∈ flatC (Jvm.Cond.and given_1 narrow_1), c.before args s = true) (hts : ∀ w ∈ lw_tbl, w.before args s = true) : ∃ t : Nat, va_Z "BoundGodmothers" "LAW_AT_FIRST" "[I" (.ref t) (fun q => s.heap.size ≤ q) s s.heap ∧ va_T .int t 4 (fun j => .int (lfA j)) (fun q => s.heap.size ≤ q) s s.heap := by
  have hel : ∀ j : Nat, j < 4 → (Cond.eq (.elem (.static "BoundGodmothers" "LAW_AT_FIRST" "[I") (.int (Int32.ofNat j))) (.int (lfA j))).before args s = true := by
    intro j hj
    match j, hj with
    | 0, _ => exact (hs _ (List.mem_of_getElem? (i := 7) rfl))
    | 1, _ => exact (hs _ (List.mem_of_getElem? (i := 8) rfl))
    | 2, _ => exact (hs _ (List.mem_of_getElem? (i := 9) rfl))
    | 3, _ => exact (hs _ (List.mem_of_getElem? (i := 10) rfl))
    | k + 4, hk => exact absurd hk (by omega)
  obtain ⟨t, ht, hT⟩ := va_Tof (N := 4) (f := fun j => .int (lfA j)) (A := fun q => s.heap.size ≤ q) (by omega) (hs _ (List.mem_of_getElem? (i := 5) rfl)) (va_eqt (hs _ (List.mem_of_getElem? (i := 6) rfl))) (fun j hj => va_eqt (hel j hj)) (fun _ h => Nat.not_le.mpr h)
  exact ⟨t, va_Zref (hts _ (List.mem_of_getElem? (i := 201) rfl)) (hts _ (List.mem_of_getElem? (i := 81) rfl)) ht (fun _ h => Nat.not_le.mpr h), hT⟩
set_option maxRecDepth 100000 in
theorem xf_start {args : Array Value} {s : State} (hs : ∀ c ∈ flatC (Jvm.Cond.and given_1 narrow_1), c.before args s = true) (hts : ∀ w ∈ lw_tbl, w.before args s = true) : ∃ gs : Nat → Nat, xfC gs (fun q => s.heap.size ≤ q) s s.heap := by
  obtain ⟨t0v, hz0, ht0⟩ := ar_lmA hs hts
  obtain ⟨t1v, hz1, ht1⟩ := ar_lfA hs hts
  obtain ⟨adK, adV, hS0, hev⟩ := vk_Sof (N := 18) (tm := tmS) (len := lenS) (byt := bytS) (A := fun q => s.heap.size ≤ q) (fun i hi => by have := lenS_small i hi; omega) (st_ex hs) (st_co hs) (st_ar hs) (st_le hs) (st_el hs) (fun i j hi hj hne => by
    by_cases q : j < i
    · exact st_ne0 hs i hi j q
    · exact (st_ne0 hs j hj i (by omega)).symm) (fun _ h => Nat.not_le.mpr h)
  refine ⟨fun k => if k = 0 then t0v else if k = 1 then t1v else if k < 20 then adK (k - 2) else adV (k - 20), ?_⟩
  have e1 : ∀ i, i < 18 → (if 2 + i = 0 then t0v else if 2 + i = 1 then t1v else if 2 + i < 20 then adK (2 + i - 2) else adV (2 + i - 20)) = adK i := fun i hi => by
    rw [if_neg (by omega), if_neg (by omega), if_pos (by omega), Nat.add_sub_cancel_left]
  have e2 : ∀ i, i < 18 → (if 20 + i = 0 then t0v else if 20 + i = 1 then t1v else if 20 + i < 20 then adK (20 + i - 2) else adV (20 + i - 20)) = adV i := fun i hi => by
    rw [if_neg (by omega), if_neg (by omega), if_neg (by omega), Nat.add_sub_cancel_left]
  have z0 : va_Z "BoundGodmothers" "LAW_MOST" "[I" (.ref t0v) (fun q => s.heap.size ≤ q) s s.heap := hz0
  have t0 : va_T .int t0v 4 (fun j => .int (lmA j)) (fun q => s.heap.size ≤ q) s s.heap := ht0
  have z1 : va_Z "BoundGodmothers" "LAW_AT_FIRST" "[I" (.ref t1v) (fun q => s.heap.size ≤ q) s s.heap := hz1
  have t1 : va_T .int t1v 4 (fun j => .int (lfA j)) (fun q => s.heap.size ≤ q) s s.heap := ht1
  have hS : vk_S 18 lenS bytS (fun i => if 2 + i = 0 then t0v else if 2 + i = 1 then t1v else if 2 + i < 20 then adK (2 + i - 2) else adV (2 + i - 20)) (fun i => if 20 + i = 0 then t0v else if 20 + i = 1 then t1v else if 20 + i < 20 then adK (20 + i - 2) else adV (20 + i - 20)) (fun q => s.heap.size ≤ q) s s.heap := by
    refine ⟨fun i hi => ?_, fun i j hi hj h => ?_⟩
    · simp only [e1 i hi, e2 i hi]
      exact hS0.1 i hi
    · simp only [e1 i hi, e1 j hj] at h
      exact hS0.2 i j hi hj h
  have hR : ∀ i : Nat, i < 18 → vk_R RX8 (ixS.getD i 0) (txS.getD i "") (if 2 + i = 0 then t0v else if 2 + i = 1 then t1v else if 2 + i < 20 then adK (2 + i - 2) else adV (2 + i - 20)) s := fun i hi => by
    rw [e1 i hi]
    exact vk_R.of (st_rf hts i hi) (hev i hi)
  exact ⟨z0, t0, z1, t1, va_Nw.of rfl (hts _ (List.mem_of_getElem? (i := 200) rfl)), va_Nw.of rfl (hts _ (List.mem_of_getElem? (i := 512) rfl)), va_Nw.of rfl (hts _ (List.mem_of_getElem? (i := 369) rfl)), va_Nw.of rfl (hts _ (List.mem_of_getElem? (i := 482) rfl)), va_Nw.of rfl (hts _ (List.mem_of_getElem? (i := 671) rfl)), va_Nw.of rfl (hts _ (List.mem_of_getElem? (i := 677) rfl)), va_Nw.of rfl (hts _ (List.mem_of_getElem? (i := 829) rfl)), va_Zof (hts _ (List.mem_of_getElem? (i := 415) rfl)) (hts _ (List.mem_of_getElem? (i := 94) rfl)) (va_eqt (hs _ (List.mem_of_getElem? (i := 11) rfl))) (fun _ h => Nat.not_le.mpr h), va_Zqof (hts _ (List.mem_of_getElem? (i := 431) rfl)) (hts _ (List.mem_of_getElem? (i := 96) rfl)) (hs _ (List.mem_of_getElem? (i := 12) rfl)) (fun _ h => Nat.not_le.mpr h), hS, hR, va_Nw.of rfl (hts _ (List.mem_of_getElem? (i := 1656) rfl)), va_Nw.of rfl (hts _ (List.mem_of_getElem? (i := 1652) rfl)), va_Nw.of rfl (hts _ (List.mem_of_getElem? (i := 1657) rfl)), va_Nw.of rfl (hts _ (List.mem_of_getElem? (i := 1653) rfl)), va_Nw.of rfl (hts _ (List.mem_of_getElem? (i := 1654) rfl)), va_Nw.of rfl (hts _ (List.mem_of_getElem? (i := 1658) rfl)), va_Nw.of rfl (hts _ (List.mem_of_getElem? (i := 1655) rfl)), va_Nc.of (hs _ (List.mem_of_getElem? (i := 31) rfl)), va_Nc.of (hs _ (List.mem_of_getElem? (i := 42) rfl)), va_Nc.of (hs _ (List.mem_of_getElem? (i := 53) rfl)), va_Nc.of (hs _ (List.mem_of_getElem? (i := 65) rfl)), va_Nc.of (hs _ (List.mem_of_getElem? (i := 77) rfl)), va_Nc.of (hs _ (List.mem_of_getElem? (i := 43) rfl)), va_Nc.of (hs _ (List.mem_of_getElem? (i := 54) rfl)), va_Nc.of (hs _ (List.mem_of_getElem? (i := 66) rfl)), va_Nc.of (hs _ (List.mem_of_getElem? (i := 78) rfl)), va_Nc.of (hs _ (List.mem_of_getElem? (i := 32) rfl)), va_Nc.of (hs _ (List.mem_of_getElem? (i := 55) rfl)), va_Nc.of (hs _ (List.mem_of_getElem? (i := 67) rfl)), va_Nc.of (hs _ (List.mem_of_getElem? (i := 79) rfl)), va_Nc.of (hs _ (List.mem_of_getElem? (i := 44) rfl)), va_Nc.of (hs _ (List.mem_of_getElem? (i := 68) rfl)), va_Nc.of (hs _ (List.mem_of_getElem? (i := 80) rfl)), va_Nc.of (hs _ (List.mem_of_getElem? (i := 33) rfl)), va_Nc.of (hs _ (List.mem_of_getElem? (i := 56) rfl)), va_Nc.of (hs _ (List.mem_of_getElem? (i := 81) rfl)), va_Nc.of (hs _ (List.mem_of_getElem? (i := 34) rfl)), va_Nc.of (hs _ (List.mem_of_getElem? (i := 45) rfl)), va_Nc.of (hs _ (List.mem_of_getElem? (i := 57) rfl)), va_Nc.of (hs _ (List.mem_of_getElem? (i := 69) rfl))⟩
set_option maxRecDepth 100000 in
theorem k_start {args : Array Value} {s : State} (hts : ∀ w ∈ lw_tbl, w.before args s = true) : ∃ (D : va_G) (cy : Nat → ClassId), va_K D clG (tyG cy) s := by
  obtain ⟨c0, i0, h0⟩ := u_known (C := RX0) (T := TX0) (N := 0) (n := 0) hts in_wsX00 (hts _ (List.mem_of_getElem? (i := 110) rfl))
  obtain ⟨c1, i1, h1⟩ := u_known (C := RX1) (T := TX1) (N := 8) (n := 8) hts in_wsX10 (hts _ (List.mem_of_getElem? (i := 152) rfl))
  obtain ⟨c2, i2, h2⟩ := u_known (C := RX2) (T := TX2) (N := 6) (n := 6) hts in_wsX20 (hts _ (List.mem_of_getElem? (i := 268) rfl))
  obtain ⟨c3, i3, h3⟩ := u_known (C := RX3) (T := TX3) (N := 0) (n := 0) hts in_wsX30 (hts _ (List.mem_of_getElem? (i := 131) rfl))
  obtain ⟨c4, i4, h4⟩ := u_known (C := RX4) (T := TX4) (N := 5) (n := 5) hts in_wsX40 (hts _ (List.mem_of_getElem? (i := 294) rfl))
  obtain ⟨c5, i5, h5⟩ := u_known (C := RX5) (T := TX5) (N := 0) (n := 0) hts in_wsX50 (hts _ (List.mem_of_getElem? (i := 117) rfl))
  obtain ⟨c6, i6, h6⟩ := u_known (C := RX6) (T := TX6) (N := 6) (n := 6) hts in_wsX60 (hts _ (List.mem_of_getElem? (i := 159) rfl))
  obtain ⟨c7, i7, h7⟩ := u_known (C := RX7) (T := TX7) (N := 0) (n := 0) hts in_wsX70 (hts _ (List.mem_of_getElem? (i := 138) rfl))
  obtain ⟨c8, i8, h8⟩ := u_known (C := RX8) (T := TX8) (N := 6) (n := 6) hts in_wsX80 (hts _ (List.mem_of_getElem? (i := 241) rfl))
  obtain ⟨c9, i9, h9⟩ := u_known (C := RX9) (T := TX9) (N := 0) (n := 0) hts in_wsX90 (hts _ (List.mem_of_getElem? (i := 145) rfl))
  obtain ⟨c10, i10, h10⟩ := u_known (C := RX10) (T := TX10) (N := 0) (n := 0) hts in_wsX100 (hts _ (List.mem_of_getElem? (i := 124) rfl))
  obtain ⟨c11, i11, h11⟩ := u_known (C := RX11) (T := TX11) (N := 12) (n := 12) hts in_wsX110 (hts _ (List.mem_of_getElem? (i := 101) rfl))
  obtain ⟨c12, i12, h12⟩ := u_known (C := RX12) (T := TX12) (N := 28) (n := 28) hts in_wsX120 (hts _ (List.mem_of_getElem? (i := 1102) rfl))
  obtain ⟨aB, kB, pB, fB1, fB2, fB3⟩ := Cond.arrayClass_spec (hts _ (List.mem_of_getElem? (i := 266) rfl))
  obtain ⟨aI, kI, pI, fI1, fI2, fI3⟩ := Cond.arrayClass_spec (hts _ (List.mem_of_getElem? (i := 195) rfl))
  obtain ⟨aJ, kJ, pJ, fJ1, fJ2, fJ3⟩ := Cond.arrayClass_spec (hts _ (List.mem_of_getElem? (i := 292) rfl))
  obtain ⟨pQ, aQ, kQ, fQ1, -, fQ2, fQ3, fQ4⟩ := Cond.arrayOver_spec (hts _ (List.mem_of_getElem? (i := 109) rfl))
  obtain ⟨pL, aL, kL, fL1, -, fL2, fL3, fL4⟩ := Cond.arrayOver_spec (hts _ (List.mem_of_getElem? (i := 158) rfl))
  refine ⟨(fun k => if k = 0 then c0 else if k = 1 then c1 else if k = 2 then c2 else if k = 3 then c3 else if k = 4 then c4 else if k = 5 then c5 else if k = 6 then c6 else if k = 7 then c7 else if k = 8 then c8 else if k = 9 then c9 else if k = 10 then c10 else if k = 11 then c11 else c12, fun k => if k = 0 then i0 else if k = 1 then i1 else if k = 2 then i2 else if k = 3 then i3 else if k = 4 then i4 else if k = 5 then i5 else if k = 6 then i6 else if k = 7 then i7 else if k = 8 then i8 else if k = 9 then i9 else if k = 10 then i10 else if k = 11 then i11 else i12), (fun k => if k = 0 then aB else if k = 1 then aI else if k = 2 then aJ else if k = 3 then aQ else aL), fun k q hq => ?_, fun k q hq => ?_⟩
  · match k, hq with
    | 0, hq => cases hq; exact h0
    | 1, hq => cases hq; exact h1
    | 2, hq => cases hq; exact h2
    | 3, hq => cases hq; exact h3
    | 4, hq => cases hq; exact h4
    | 5, hq => cases hq; exact h5
    | 6, hq => cases hq; exact h6
    | 7, hq => cases hq; exact h7
    | 8, hq => cases hq; exact h8
    | 9, hq => cases hq; exact h9
    | 10, hq => cases hq; exact h10
    | 11, hq => cases hq; exact h11
    | 12, hq => cases hq; exact h12
    | k + 13, hq => simp [clG] at hq
  · match k, hq with
    | 0, hq => cases hq; exact ⟨fun n z => ⟨fun k h => (by cases h), kB, fB2, pB, fB3⟩, fB1⟩
    | 1, hq => cases hq; exact ⟨fun n z => ⟨fun k h => (by cases h), kI, fI2, pI, fI3⟩, fI1⟩
    | 2, hq => cases hq; exact ⟨fun n z => ⟨fun k h => (by cases h), kJ, fJ2, pJ, fJ3⟩, fJ1⟩
    | 3, hq => cases hq; exact ⟨fun n z => ⟨fun k h => (by cases h), kQ, fQ2, pQ, fQ3⟩, kQ, pQ, fQ2, fQ3, fQ1, fQ4⟩
    | 4, hq => cases hq; exact ⟨fun n z => ⟨fun k h => (by cases h), kL, fL2, pL, fL3⟩, kL, pL, fL2, fL3, fL1, fL4⟩
    | k + 5, hq => simp [tyG] at hq
set_option maxRecDepth 100000 in
theorem xg_start {args : Array Value} {s : State} (hs : ∀ c ∈ flatC (Jvm.Cond.and given_1 narrow_1), c.before args s = true) (hts : ∀ w ∈ lw_tbl, w.before args s = true) : ∃ gs : Nat → Nat, xg_ gs (fun q => s.heap.size ≤ q) s s.heap := by
  obtain ⟨gs, h⟩ := xf_start hs hts
  exact ⟨gs, h, va_AO.of (hts _ (List.mem_of_getElem? (i := 109) rfl)), va_AO.of (hts _ (List.mem_of_getElem? (i := 158) rfl))⟩
