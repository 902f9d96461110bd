section ARM
variable {p : Program} {l : Launch} {e : Env} {s : State} {m : MethodId} {args : Array Value} {below : List Frame} {meth : Method} {c : Code} {Q : State → Prop} {D : va_G} {T : Nat → ClassId} {aK aV : Nat → Nat} {A : Nat → Prop} {sc L : Nat} {xs : Nat → Int32} {v : Nat → Nat} {B : Nat → Nat → Nat} {b : Nat → Nat} {ob : Nat}
set_option maxHeartbeats 4000000 in
set_option maxRecDepth 100000 in
theorem arm_0 (X : LCX p l s m args c D T aK aV A sc L xs) {i : Nat} (hi : i + 6 ≤ L) {H : Heap} {locs : List Loc} {ls : Array Slot} {cells slots : Nat} (hcs : cells + 5 ≤ room_1.cells ∧ slots + 30 ≤ room_1.slots) (h : LST s D T A sc v B b ob i H locs ls) (kk : ∀ (H1 : Heap) (locs1 : List Loc) (ls1 : Array Slot), LST s D T A sc v B b ob i H1 locs1 ls1 → W p l e room_1 s m args below meth c H1 locs1 (cells + 5) (slots + 30) Q (F0 m 3239 ls1 [])) : W p l e room_1 s m args below meth c H locs cells slots Q (F0 m 312 ls []) := by
  obtain ⟨hl9, hx, hb, hml, hown, hts, hX, hsc, hscA, hA, hC, hN, hK, hL⟩ := X
  obtain ⟨O, g, ln, un, nx, pl, f0, f1, f2, y, w, fo, hP, hD, hS, hG, hl⟩ := h
  obtain ⟨N, K, C, nt, hn, h9⟩ := id hG.1
  obtain ⟨z1, hz1⟩ : ∃ z, xs (i + 1) = z := ⟨_, rfl⟩
  obtain ⟨z2, hz2⟩ : ∃ z, xs (i + 2) = z := ⟨_, rfl⟩
  obtain ⟨z3, hz3⟩ : ∃ z, xs (i + 3) = z := ⟨_, rfl⟩
  obtain ⟨z4, hz4⟩ : ∃ z, xs (i + 4) = z := ⟨_, rfl⟩
  obtain ⟨z5, hz5⟩ : ∃ z, xs (i + 5) = z := ⟨_, rfl⟩
  refine lv_aload_n hx hb dL_law_312 rfl (lv_at hl 1 rfl) ?_
  refine lv_aload_n hx hb dL_law_313 rfl (lv_at hl 0 rfl) ?_
  refine lv_iload hx hb dL_law_314 (lv_at hl 4 rfl) ?_
  refine lv_iconst (v := 1) hx hb dL_law_316 (by decide) ?_
  refine lv_iadd hx hb dL_law_317 ?_
  refine endI (r := nI (i + 1)) (nI_add i 1) ?_
  refine sldN hx hb hX hsc hscA hS hz1 (by omega) hL dL_law_318 ?_
  refine lv_aload_n hx hb dL_law_319 rfl (lv_at hl 0 rfl) ?_
  refine lv_iload hx hb dL_law_320 (lv_at hl 4 rfl) ?_
  refine lv_iconst (v := 2) hx hb dL_law_322 (by decide) ?_
  refine lv_iadd hx hb dL_law_323 ?_
  refine endI (r := nI (i + 2)) (nI_add i 2) ?_
  refine sldN hx hb hX hsc hscA hS hz2 (by omega) hL dL_law_324 ?_
  refine lv_aload_n hx hb dL_law_325 rfl (lv_at hl 0 rfl) ?_
  refine lv_iload hx hb dL_law_326 (lv_at hl 4 rfl) ?_
  refine lv_iconst (v := 3) hx hb dL_law_328 (by decide) ?_
  refine lv_iadd hx hb dL_law_329 ?_
  refine endI (r := nI (i + 3)) (nI_add i 3) ?_
  refine sldN hx hb hX hsc hscA hS hz3 (by omega) hL dL_law_330 ?_
  refine lv_aload_n hx hb dL_law_331 rfl (lv_at hl 0 rfl) ?_
  refine lv_iload hx hb dL_law_332 (lv_at hl 4 rfl) ?_
  refine lv_iconst (v := 4) hx hb dL_law_334 (by decide) ?_
  refine lv_iadd hx hb dL_law_335 ?_
  refine endI (r := nI (i + 4)) (nI_add i 4) ?_
  refine sldN hx hb hX hsc hscA hS hz4 (by omega) hL dL_law_336 ?_
  refine lv_aload_n hx hb dL_law_337 rfl (lv_at hl 0 rfl) ?_
  refine lv_iload hx hb dL_law_338 (lv_at hl 4 rfl) ?_
  refine lv_iconst (v := 5) hx hb dL_law_340 (by decide) ?_
  refine lv_iadd hx hb dL_law_341 ?_
  refine endI (r := nI (i + 5)) (nI_add i 5) ?_
  refine sldN hx hb hX hsc hscA hS hz5 (by omega) hL dL_law_342 ?_
  refine lv_aload_n hx hb dL_law_343 rfl (lv_at hl 3 rfl) ?_
  refine wlSi (As := [.ref (v 0), .int z1, .int z2, .int z3, .int z4, .int z5, .ref ob]) (rest := []) ⟨hx, hb, hml, hown, hts⟩ (c_L_append l hl9 D T aK aV v B O g ln un nx pl f0 f1 f2 ob fo z1 z2 z3 z4 z5 hG.2.2.2.1.1 _) (vx_cwSW 7 hts gl_L_append rfl rfl rfl (by decide +kernel) ⟨Nat.le_of_ble_eq_true rfl, Nat.le_of_ble_eq_true rfl⟩) (Foc.lft _ _ _) hC hN hK hP hD hS hA rfl hl.1 rfl (Nat.le_of_ble_eq_true rfl) ⟨by omega, by omega⟩ dL_law_344 (fun H locs hP hD hS => ?_)
  refine lv_istore (lv' := [(5, .int (kC "java/lang/IllegalStateException" (chkB (decide (ln ≤ 580)) "java/lang/IllegalStateException"))), (0, .ref sc), (1, .ref (v 0)), (2, .ref (b 0)), (3, .ref ob), (4, .int (nI i))]) hx hb dL_law_347 hl (by decide) rfl (fun ls hl => ?_)
  refine lv_aload_n hx hb dL_law_349 rfl (lv_at hl 3 rfl) ?_
  refine lv_aload_n hx hb dL_law_350 rfl (lv_at hl 1 rfl) ?_
  refine lv_iload hx hb dL_law_351 (lv_at hl 5 rfl) ?_
  refine lv_iconst (v := 1) hx hb dL_law_353 (by decide) ?_
  refine lv_iadd hx hb dL_law_354 ?_
  refine endI (r := nI (i + 1)) (nI_add i 1) ?_
  refine sldN hx hb hX hsc hscA hS hz1 (by omega) hL dL_law_355 ?_
  refine lv_aload_n hx hb dL_law_356 rfl (lv_at hl 1 rfl) ?_
  refine lv_iload hx hb dL_law_357 (lv_at hl 5 rfl) ?_
  refine lv_iconst (v := 2) hx hb dL_law_359 (by decide) ?_
  refine lv_iadd hx hb dL_law_360 ?_
  refine endI (r := nI (i + 2)) (nI_add i 2) ?_
  refine sldN hx hb hX hsc hscA hS hz2 (by omega) hL dL_law_361 ?_
  refine lv_aload_n hx hb dL_law_362 rfl (lv_at hl 1 rfl) ?_
  refine lv_iload hx hb dL_law_363 (lv_at hl 5 rfl) ?_
  refine lv_iconst (v := 3) hx hb dL_law_365 (by decide) ?_
  refine lv_iadd hx hb dL_law_366 ?_
  refine endI (r := nI (i + 3)) (nI_add i 3) ?_
  refine sldN hx hb hX hsc hscA hS hz3 (by omega) hL dL_law_367 ?_
  refine lv_aload_n hx hb dL_law_368 rfl (lv_at hl 1 rfl) ?_
  refine lv_iload hx hb dL_law_369 (lv_at hl 5 rfl) ?_
  refine lv_iconst (v := 4) hx hb dL_law_371 (by decide) ?_
  refine lv_iadd hx hb dL_law_372 ?_
  refine endI (r := nI (i + 4)) (nI_add i 4) ?_
  refine sldN hx hb hX hsc hscA hS hz4 (by omega) hL dL_law_373 ?_
  refine lv_aload_n hx hb dL_law_374 rfl (lv_at hl 1 rfl) ?_
  refine lv_iload hx hb dL_law_375 (lv_at hl 5 rfl) ?_
  refine lv_iconst (v := 5) hx hb dL_law_377 (by decide) ?_
  refine lv_iadd hx hb dL_law_378 ?_
  refine endI (r := nI (i + 5)) (nI_add i 5) ?_
  refine sldN hx hb hX hsc hscA hS hz5 (by omega) hL dL_law_379 ?_
  refine wrVi (As := [.int z1, .int z2, .int z3, .int z4, .int z5]) (rest := []) ⟨hx, hb, hml, hown, hts⟩ (c_X10_append l D T b y w z1 z2 z3 z4 z5 ln hG.2.2.2.1.2.1 hG.2.2.2.1.1 _) (cwV 5 hts gl_X10_append rfl rfl rfl (by decide +kernel) ⟨Nat.le_of_ble_eq_true rfl, Nat.le_of_ble_eq_true rfl⟩) (Foc.rgt _ _ _) hK hP hD hS hA 0 rfl rfl rfl hl.1 rfl (Nat.le_of_ble_eq_true rfl) ⟨by omega, by omega⟩ dL_law_380 (fun H locs hP hD hS => ?_)
  refine lv_istore (lv' := [(6, .int (if ln + 20 ≤ 600 then nI (ln + 20) else 0)), (5, .int (kC "java/lang/IllegalStateException" (chkB (decide (ln ≤ 580)) "java/lang/IllegalStateException"))), (0, .ref sc), (1, .ref (v 0)), (2, .ref (b 0)), (3, .ref ob), (4, .int (nI i))]) hx hb dL_law_383 hl (by decide) rfl (fun ls hl => ?_)
  refine lv_aload_n hx hb dL_law_385 rfl (lv_at hl 4 rfl) ?_
  refine rdV (As := []) (rest := []) ⟨hx, hb, hml, hown, hts⟩ (c_X10_thrown l D T b (if ln + 20 ≤ 600 then yS (yS (va_up y 7 (appR z1 z2 z3 z4 z5 ln (y 7))) 3 0) 1 (nI (ln + 20)) else yS y 3 1) w) (cwV 0 hts gl_X10_thrown rfl rfl rfl (by decide +kernel) ⟨Nat.le_of_ble_eq_true rfl, Nat.le_of_ble_eq_true rfl⟩) hK ((Foc.rgt _ _ []).subP hP) 0 rfl rfl rfl hl.1 rfl (Nat.le_of_ble_eq_true rfl) ⟨by omega, by omega⟩ dL_law_386 ?_
  refine lv_iload hx hb dL_law_389 (lv_at hl 1 rfl) ?_
  have st := st_append hG z1 z2 z3 z4 z5
  have hk := st.code
  refine lv_icmp_eq (tgt := 396) hx hb dL_law_391 (by decide) (fun _ => ?_) (fun c1 => absurd hk c1)
  generalize hcd : (chkB (decide (ln ≤ 580)) "java/lang/IllegalStateException") = cd at st hP hD hl
  cases cd with
  | none =>
    obtain ⟨eV, hG1⟩ := st.n
    refine lv_iload hx hb dL_law_396 (lv_at hl 1 rfl) ?_
    refine lv_if_ne (tgt := 413) hx hb dL_law_398 (by decide) (fun c1 => absurd rfl c1) (fun _ => ?_)
    have hP : va_P D vwCl ((OUT T ob (vp_updL fo 0 ((nI (ln + 20)).toInt64)) :: WIN T v B O g (ln + 20) un nx pl (appC z1 z2 z3 z4 z5 ln f0) f1 f2) ++ REF T b (if ln + 20 ≤ 600 then yS (yS (va_up y 7 (appR z1 z2 z3 z4 z5 ln (y 7))) 3 0) 1 (nI (ln + 20)) else yS y 3 1) w) H := hP
    have hD : va_D A ((OUT T ob (vp_updL fo 0 ((nI (ln + 20)).toInt64)) :: WIN T v B O g (ln + 20) un nx pl (appC z1 z2 z3 z4 z5 ln f0) f1 f2) ++ REF T b (if ln + 20 ≤ 600 then yS (yS (va_up y 7 (appR z1 z2 z3 z4 z5 ln (y 7))) 3 0) 1 (nI (ln + 20)) else yS y 3 1) w) := hD
    refine lv_aload_n hx hb dL_law_401 rfl (lv_at hl 5 rfl) ?_
    refine lv_iconst (v := 0) hx hb dL_law_402 (by decide) ?_
    refine laldO hx hb hK hP dL_law_403 ?_
    refine lv_iload hx hb dL_law_404 (lv_at hl 0 rfl) ?_
    refine lv_i2l (v := (if ln + 20 ≤ 600 then nI (ln + 20) else 0).toInt64) hx hb dL_law_406 rfl ?_
    refine W.lcmp hx hb dL_law_407 ?_
    refine lv_if_eq (tgt := 413) hx hb dL_law_408 (by decide) (fun _ => ?_) (fun c1 => absurd ((lg_cmp_eq _ _).mpr eV) c1)
    refine lv_goto (tgt := 3239) hx hb dL_law_413 (by decide) ?_
    refine W.widen (k := cells + 5) (n := slots + 30) (by omega) (by omega) ?_
    have hP : va_P D vwCl ((OUT T ob (vp_updL fo 0 ((nI (ln + 20)).toInt64)) :: WIN T v B O g (ln + 20) un nx pl (appC z1 z2 z3 z4 z5 ln f0) f1 f2) ++ REF T b (if ln + 20 ≤ 600 then yS (yS (va_up y 7 (appR z1 z2 z3 z4 z5 ln (y 7))) 3 0) 1 (nI (ln + 20)) else yS y 3 1) w) H := hP
    have hD : va_D A ((OUT T ob (vp_updL fo 0 ((nI (ln + 20)).toInt64)) :: WIN T v B O g (ln + 20) un nx pl (appC z1 z2 z3 z4 z5 ln f0) f1 f2) ++ REF T b (if ln + 20 ≤ 600 then yS (yS (va_up y 7 (appR z1 z2 z3 z4 z5 ln (y 7))) 3 0) 1 (nI (ln + 20)) else yS y 3 1) w) := hD
    exact kk _ _ _ ⟨O, g, (ln + 20), un, nx, pl, (appC z1 z2 z3 z4 z5 ln f0), f1, f2, (if ln + 20 ≤ 600 then yS (yS (va_up y 7 (appR z1 z2 z3 z4 z5 ln (y 7))) 3 0) 1 (nI (ln + 20)) else yS y 3 1), w, (vp_updL fo 0 ((nI (ln + 20)).toInt64)), hP, hD, hS, hG1, lv_sub hl [2, 3, 4, 5, 6] rfl⟩
  | some E =>
    have hG1 := st.s
    refine lv_iload hx hb dL_law_396 (lv_at hl 1 rfl) ?_
    refine lv_if_ne (tgt := 413) hx hb dL_law_398 (by decide) (fun _ => ?_) (fun c1 => absurd c1 kC_some)
    refine lv_goto (tgt := 3239) hx hb dL_law_413 (by decide) ?_
    refine W.widen (k := cells + 5) (n := slots + 30) (by omega) (by omega) ?_
    have hP : va_P D vwCl ((OUT T ob fo :: WIN T v B O g ln un nx pl f0 f1 f2) ++ REF T b (if ln + 20 ≤ 600 then yS (yS (va_up y 7 (appR z1 z2 z3 z4 z5 ln (y 7))) 3 0) 1 (nI (ln + 20)) else yS y 3 1) w) H := hP
    have hD : va_D A ((OUT T ob fo :: WIN T v B O g ln un nx pl f0 f1 f2) ++ REF T b (if ln + 20 ≤ 600 then yS (yS (va_up y 7 (appR z1 z2 z3 z4 z5 ln (y 7))) 3 0) 1 (nI (ln + 20)) else yS y 3 1) w) := hD
    exact kk _ _ _ ⟨O, g, ln, un, nx, pl, f0, f1, f2, (if ln + 20 ≤ 600 then yS (yS (va_up y 7 (appR z1 z2 z3 z4 z5 ln (y 7))) 3 0) 1 (nI (ln + 20)) else yS y 3 1), w, fo, hP, hD, hS, hG1, lv_sub hl [2, 3, 4, 5, 6] rfl⟩

set_option maxHeartbeats 4000000 in
set_option maxRecDepth 100000 in
theorem arm_1 (X : LCX p l s m args c D T aK aV A sc L xs) {i : Nat} (hi : i + 6 ≤ L) {H : Heap} {locs : List Loc} {ls : Array Slot} {cells slots : Nat} (hcs : cells + 5 ≤ room_1.cells ∧ slots + 30 ≤ room_1.slots) (h : LST s D T A sc v B b ob i H locs ls) (kk : ∀ (H1 : Heap) (locs1 : List Loc) (ls1 : Array Slot), LST s D T A sc v B b ob i H1 locs1 ls1 → W p l e room_1 s m args below meth c H1 locs1 (cells + 5) (slots + 30) Q (F0 m 3239 ls1 [])) : W p l e room_1 s m args below meth c H locs cells slots Q (F0 m 416 ls []) := by
  obtain ⟨hl9, hx, hb, hml, hown, hts, hX, hsc, hscA, hA, hC, hN, hK, hL⟩ := X
  obtain ⟨O, g, ln, un, nx, pl, f0, f1, f2, y, w, fo, hP, hD, hS, hG, hl⟩ := h
  obtain ⟨N, K, C, nt, hn, h9⟩ := id hG.1
  obtain ⟨z1, hz1⟩ : ∃ z, xs (i + 1) = z := ⟨_, rfl⟩
  refine lv_aload_n hx hb dL_law_416 rfl (lv_at hl 1 rfl) ?_
  refine lv_aload_n hx hb dL_law_417 rfl (lv_at hl 0 rfl) ?_
  refine lv_iload hx hb dL_law_418 (lv_at hl 4 rfl) ?_
  refine lv_iconst (v := 1) hx hb dL_law_420 (by decide) ?_
  refine lv_iadd hx hb dL_law_421 ?_
  refine endI (r := nI (i + 1)) (nI_add i 1) ?_
  refine sldN hx hb hX hsc hscA hS hz1 (by omega) hL dL_law_422 ?_
  refine lv_aload_n hx hb dL_law_423 rfl (lv_at hl 3 rfl) ?_
  refine wlSi (As := [.ref (v 0), .int z1, .ref ob]) (rest := []) ⟨hx, hb, hml, hown, hts⟩ (c_L_shorten l hl9 D T aK aV v B O g ln un nx pl f0 f1 f2 ob fo z1 hG.2.2.2.1.1 _) (vx_cwSW 3 hts gl_L_shorten rfl rfl rfl (by decide +kernel) ⟨Nat.le_of_ble_eq_true rfl, Nat.le_of_ble_eq_true rfl⟩) (Foc.lft _ _ _) hC hN hK hP hD hS hA rfl hl.1 rfl (Nat.le_of_ble_eq_true rfl) ⟨by omega, by omega⟩ dL_law_424 (fun H locs hP hD hS => ?_)
  refine lv_istore (lv' := [(5, .int (kC "java/lang/IllegalArgumentException" (chkB (rg z1 0 (nI ln)) "java/lang/IllegalArgumentException"))), (0, .ref sc), (1, .ref (v 0)), (2, .ref (b 0)), (3, .ref ob), (4, .int (nI i))]) hx hb dL_law_427 hl (by decide) rfl (fun ls hl => ?_)
  refine lv_aload_n hx hb dL_law_429 rfl (lv_at hl 3 rfl) ?_
  refine lv_aload_n hx hb dL_law_430 rfl (lv_at hl 1 rfl) ?_
  refine lv_iload hx hb dL_law_431 (lv_at hl 5 rfl) ?_
  refine lv_iconst (v := 1) hx hb dL_law_433 (by decide) ?_
  refine lv_iadd hx hb dL_law_434 ?_
  refine endI (r := nI (i + 1)) (nI_add i 1) ?_
  refine sldN hx hb hX hsc hscA hS hz1 (by omega) hL dL_law_435 ?_
  refine wrVi (As := [.int z1]) (rest := []) ⟨hx, hb, hml, hown, hts⟩ (c_X10_shorten l D T b y w z1 ln hG.2.2.2.1.2.1 hG.2.2.2.1.1 _) (cwV 1 hts gl_X10_shorten rfl rfl rfl (by decide +kernel) ⟨Nat.le_of_ble_eq_true rfl, Nat.le_of_ble_eq_true rfl⟩) (Foc.rgt _ _ _) hK hP hD hS hA 0 rfl rfl rfl hl.1 rfl (Nat.le_of_ble_eq_true rfl) ⟨by omega, by omega⟩ dL_law_436 (fun H locs hP hD hS => ?_)
  refine lv_istore (lv' := [(6, .int (if rg z1 0 (nI ln) then z1 else 0)), (5, .int (kC "java/lang/IllegalArgumentException" (chkB (rg z1 0 (nI ln)) "java/lang/IllegalArgumentException"))), (0, .ref sc), (1, .ref (v 0)), (2, .ref (b 0)), (3, .ref ob), (4, .int (nI i))]) hx hb dL_law_439 hl (by decide) rfl (fun ls hl => ?_)
  refine lv_aload_n hx hb dL_law_441 rfl (lv_at hl 4 rfl) ?_
  refine rdV (As := []) (rest := []) ⟨hx, hb, hml, hown, hts⟩ (c_X10_thrown l D T b (if rg z1 0 (nI ln) then yS (yS y 3 0) 1 z1 else yS y 3 1) w) (cwV 0 hts gl_X10_thrown rfl rfl rfl (by decide +kernel) ⟨Nat.le_of_ble_eq_true rfl, Nat.le_of_ble_eq_true rfl⟩) hK ((Foc.rgt _ _ []).subP hP) 0 rfl rfl rfl hl.1 rfl (Nat.le_of_ble_eq_true rfl) ⟨by omega, by omega⟩ dL_law_442 ?_
  refine lv_iload hx hb dL_law_445 (lv_at hl 1 rfl) ?_
  have st := st_shorten hG z1
  have hk := st.code
  refine lv_icmp_eq (tgt := 452) hx hb dL_law_447 (by decide) (fun _ => ?_) (fun c1 => absurd hk c1)
  generalize hcd : (chkB (rg z1 0 (nI ln)) "java/lang/IllegalArgumentException") = cd at st hP hD hl
  cases cd with
  | none =>
    obtain ⟨eV, hG1⟩ := st.n
    refine lv_iload hx hb dL_law_452 (lv_at hl 1 rfl) ?_
    refine lv_if_ne (tgt := 469) hx hb dL_law_454 (by decide) (fun c1 => absurd rfl c1) (fun _ => ?_)
    have hP : va_P D vwCl ((OUT T ob (vp_updL fo 0 ((z1).toInt64)) :: WIN T v B O g z1.toNatClampNeg un nx pl f0 f1 f2) ++ REF T b (if rg z1 0 (nI ln) then yS (yS y 3 0) 1 z1 else yS y 3 1) w) H := hP
    have hD : va_D A ((OUT T ob (vp_updL fo 0 ((z1).toInt64)) :: WIN T v B O g z1.toNatClampNeg un nx pl f0 f1 f2) ++ REF T b (if rg z1 0 (nI ln) then yS (yS y 3 0) 1 z1 else yS y 3 1) w) := hD
    refine lv_aload_n hx hb dL_law_457 rfl (lv_at hl 5 rfl) ?_
    refine lv_iconst (v := 0) hx hb dL_law_458 (by decide) ?_
    refine laldO hx hb hK hP dL_law_459 ?_
    refine lv_iload hx hb dL_law_460 (lv_at hl 0 rfl) ?_
    refine lv_i2l (v := (if rg z1 0 (nI ln) then z1 else 0).toInt64) hx hb dL_law_462 rfl ?_
    refine W.lcmp hx hb dL_law_463 ?_
    refine lv_if_eq (tgt := 469) hx hb dL_law_464 (by decide) (fun _ => ?_) (fun c1 => absurd ((lg_cmp_eq _ _).mpr eV) c1)
    refine lv_goto (tgt := 3239) hx hb dL_law_469 (by decide) ?_
    refine W.widen (k := cells + 5) (n := slots + 30) (by omega) (by omega) ?_
    have hP : va_P D vwCl ((OUT T ob (vp_updL fo 0 ((z1).toInt64)) :: WIN T v B O g z1.toNatClampNeg un nx pl f0 f1 f2) ++ REF T b (if rg z1 0 (nI ln) then yS (yS y 3 0) 1 z1 else yS y 3 1) w) H := hP
    have hD : va_D A ((OUT T ob (vp_updL fo 0 ((z1).toInt64)) :: WIN T v B O g z1.toNatClampNeg un nx pl f0 f1 f2) ++ REF T b (if rg z1 0 (nI ln) then yS (yS y 3 0) 1 z1 else yS y 3 1) w) := hD
    exact kk _ _ _ ⟨O, g, z1.toNatClampNeg, un, nx, pl, f0, f1, f2, (if rg z1 0 (nI ln) then yS (yS y 3 0) 1 z1 else yS y 3 1), w, (vp_updL fo 0 ((z1).toInt64)), hP, hD, hS, hG1, lv_sub hl [2, 3, 4, 5, 6] rfl⟩
  | some E =>
    have hG1 := st.s
    refine lv_iload hx hb dL_law_452 (lv_at hl 1 rfl) ?_
    refine lv_if_ne (tgt := 469) hx hb dL_law_454 (by decide) (fun _ => ?_) (fun c1 => absurd c1 kC_some)
    refine lv_goto (tgt := 3239) hx hb dL_law_469 (by decide) ?_
    refine W.widen (k := cells + 5) (n := slots + 30) (by omega) (by omega) ?_
    have hP : va_P D vwCl ((OUT T ob fo :: WIN T v B O g ln un nx pl f0 f1 f2) ++ REF T b (if rg z1 0 (nI ln) then yS (yS y 3 0) 1 z1 else yS y 3 1) w) H := hP
    have hD : va_D A ((OUT T ob fo :: WIN T v B O g ln un nx pl f0 f1 f2) ++ REF T b (if rg z1 0 (nI ln) then yS (yS y 3 0) 1 z1 else yS y 3 1) w) := hD
    exact kk _ _ _ ⟨O, g, ln, un, nx, pl, f0, f1, f2, (if rg z1 0 (nI ln) then yS (yS y 3 0) 1 z1 else yS y 3 1), w, fo, hP, hD, hS, hG1, lv_sub hl [2, 3, 4, 5, 6] rfl⟩

set_option maxHeartbeats 4000000 in
set_option maxRecDepth 100000 in
theorem arm_2 (X : LCX p l s m args c D T aK aV A sc L xs) {i : Nat} (hi : i + 6 ≤ L) {H : Heap} {locs : List Loc} {ls : Array Slot} {cells slots : Nat} (hcs : cells + 5 ≤ room_1.cells ∧ slots + 30 ≤ room_1.slots) (h : LST s D T A sc v B b ob i H locs ls) (kk : ∀ (H1 : Heap) (locs1 : List Loc) (ls1 : Array Slot), LST s D T A sc v B b ob i H1 locs1 ls1 → W p l e room_1 s m args below meth c H1 locs1 (cells + 5) (slots + 30) Q (F0 m 3239 ls1 [])) : W p l e room_1 s m args below meth c H locs cells slots Q (F0 m 472 ls []) := by
  obtain ⟨hl9, hx, hb, hml, hown, hts, hX, hsc, hscA, hA, hC, hN, hK, hL⟩ := X
  obtain ⟨O, g, ln, un, nx, pl, f0, f1, f2, y, w, fo, hP, hD, hS, hG, hl⟩ := h
  obtain ⟨N, K, C, nt, hn, h9⟩ := id hG.1
  refine lv_aload_n hx hb dL_law_472 rfl (lv_at hl 1 rfl) ?_
  refine lv_aload_n hx hb dL_law_473 rfl (lv_at hl 3 rfl) ?_
  refine wlSi (As := [.ref (v 0), .ref ob]) (rest := []) ⟨hx, hb, hml, hown, hts⟩ (c_L_load l hl9 D T aK aV v B O g ln un nx pl f0 f1 f2 ob fo hG.2.2.2.1.1 hG.2.2.2.1.by_ _) (vx_cwSW 2 hts gl_L_load rfl rfl rfl (by decide +kernel) ⟨Nat.le_of_ble_eq_true rfl, Nat.le_of_ble_eq_true rfl⟩) (Foc.lft _ _ _) hC hN hK hP hD hS hA rfl hl.1 rfl (Nat.le_of_ble_eq_true rfl) ⟨by omega, by omega⟩ dL_law_474 (fun H locs hP hD hS => ?_)
  refine lv_istore (lv' := [(5, .int (kC "java/lang/IllegalArgumentException" (chkB (!(rd5 f0 ln (O 2, g)).2.2.2.1) "java/lang/IllegalArgumentException"))), (0, .ref sc), (1, .ref (v 0)), (2, .ref (b 0)), (3, .ref ob), (4, .int (nI i))]) hx hb dL_law_477 hl (by decide) rfl (fun ls hl => ?_)
  refine lv_aload_n hx hb dL_law_479 rfl (lv_at hl 3 rfl) ?_
  refine wrVi (As := []) (rest := []) ⟨hx, hb, hml, hown, hts⟩ (c_X10_load l D T b y w ln hG.2.2.2.1.2.1 hG.2.2.2.1.1 _) (cwV 0 hts gl_X10_load rfl rfl rfl (by decide +kernel) ⟨Nat.le_of_ble_eq_true rfl, Nat.le_of_ble_eq_true rfl⟩) (Foc.rgt _ _ _) hK hP hD hS hA 0 rfl rfl rfl hl.1 rfl (Nat.le_of_ble_eq_true rfl) ⟨by omega, by omega⟩ dL_law_480 (fun H locs hP hD hS => ?_)
  refine lv_istore (lv' := [(6, .int (if (loadQ (loadY y) w ln).2.2.2.2.2.2.1 then 0 else rLay (loadZ (loadY y) w ln 2) 0 0 (loadZ (loadY y) w ln 1) 6)), (5, .int (kC "java/lang/IllegalArgumentException" (chkB (!(rd5 f0 ln (O 2, g)).2.2.2.1) "java/lang/IllegalArgumentException"))), (0, .ref sc), (1, .ref (v 0)), (2, .ref (b 0)), (3, .ref ob), (4, .int (nI i))]) hx hb dL_law_483 hl (by decide) rfl (fun ls hl => ?_)
  refine lv_aload_n hx hb dL_law_485 rfl (lv_at hl 4 rfl) ?_
  refine rdV (As := []) (rest := []) ⟨hx, hb, hml, hown, hts⟩ (c_X10_thrown l D T b (loadR y w ln) ((loadQ (loadY y) w ln).2.2.2.2.2.1)) (cwV 0 hts gl_X10_thrown rfl rfl rfl (by decide +kernel) ⟨Nat.le_of_ble_eq_true rfl, Nat.le_of_ble_eq_true rfl⟩) hK ((Foc.rgt _ _ []).subP hP) 0 rfl rfl rfl hl.1 rfl (Nat.le_of_ble_eq_true rfl) ⟨by omega, by omega⟩ dL_law_486 ?_
  refine lv_iload hx hb dL_law_489 (lv_at hl 1 rfl) ?_
  have st := st_load hG  w
  have hk := st.code
  refine lv_icmp_eq (tgt := 496) hx hb dL_law_491 (by decide) (fun _ => ?_) (fun c1 => absurd hk c1)
  generalize hcd : (chkB (!(rd5 f0 ln (O 2, g)).2.2.2.1) "java/lang/IllegalArgumentException") = cd at st hP hD hl
  cases cd with
  | none =>
    obtain ⟨eV, hG1⟩ := st.n
    refine lv_iload hx hb dL_law_496 (lv_at hl 1 rfl) ?_
    refine lv_if_ne (tgt := 513) hx hb dL_law_498 (by decide) (fun c1 => absurd rfl c1) (fun _ => ?_)
    have hP : va_P D vwCl ((OUT T ob (vp_updL fo 0 (((rd4 f0 ln (O 2, g)).2.1 0 7).toInt64)) :: WIN T v B (va_up (va_up O 2 ((rd4 f0 ln (O 2, g)).2.1)) 0 ((rd4 f0 ln (O 2, g)).2.1)) (rd5 f0 ln (O 2, g)) 0 0 nx pl f0 f1 (iter (fun k f => va_up f k 0) 2 0 f2)) ++ REF T b (loadR y w ln) ((loadQ (loadY y) w ln).2.2.2.2.2.1)) H := hP
    have hD : va_D A ((OUT T ob (vp_updL fo 0 (((rd4 f0 ln (O 2, g)).2.1 0 7).toInt64)) :: WIN T v B (va_up (va_up O 2 ((rd4 f0 ln (O 2, g)).2.1)) 0 ((rd4 f0 ln (O 2, g)).2.1)) (rd5 f0 ln (O 2, g)) 0 0 nx pl f0 f1 (iter (fun k f => va_up f k 0) 2 0 f2)) ++ REF T b (loadR y w ln) ((loadQ (loadY y) w ln).2.2.2.2.2.1)) := hD
    refine lv_aload_n hx hb dL_law_501 rfl (lv_at hl 5 rfl) ?_
    refine lv_iconst (v := 0) hx hb dL_law_502 (by decide) ?_
    refine laldO hx hb hK hP dL_law_503 ?_
    refine lv_iload hx hb dL_law_504 (lv_at hl 0 rfl) ?_
    refine lv_i2l (v := (if (loadQ (loadY y) w ln).2.2.2.2.2.2.1 then 0 else rLay (loadZ (loadY y) w ln 2) 0 0 (loadZ (loadY y) w ln 1) 6).toInt64) hx hb dL_law_506 rfl ?_
    refine W.lcmp hx hb dL_law_507 ?_
    refine lv_if_eq (tgt := 513) hx hb dL_law_508 (by decide) (fun _ => ?_) (fun c1 => absurd ((lg_cmp_eq _ _).mpr eV) c1)
    refine lv_goto (tgt := 3239) hx hb dL_law_513 (by decide) ?_
    refine W.widen (k := cells + 5) (n := slots + 30) (by omega) (by omega) ?_
    have hP : va_P D vwCl ((OUT T ob (vp_updL fo 0 (((rd4 f0 ln (O 2, g)).2.1 0 7).toInt64)) :: WIN T v B (va_up (va_up O 2 ((rd4 f0 ln (O 2, g)).2.1)) 0 ((rd4 f0 ln (O 2, g)).2.1)) (rd5 f0 ln (O 2, g)) 0 0 nx pl f0 f1 (iter (fun k f => va_up f k 0) 2 0 f2)) ++ REF T b (loadR y w ln) ((loadQ (loadY y) w ln).2.2.2.2.2.1)) H := hP
    have hD : va_D A ((OUT T ob (vp_updL fo 0 (((rd4 f0 ln (O 2, g)).2.1 0 7).toInt64)) :: WIN T v B (va_up (va_up O 2 ((rd4 f0 ln (O 2, g)).2.1)) 0 ((rd4 f0 ln (O 2, g)).2.1)) (rd5 f0 ln (O 2, g)) 0 0 nx pl f0 f1 (iter (fun k f => va_up f k 0) 2 0 f2)) ++ REF T b (loadR y w ln) ((loadQ (loadY y) w ln).2.2.2.2.2.1)) := hD
    exact kk _ _ _ ⟨(va_up (va_up O 2 ((rd4 f0 ln (O 2, g)).2.1)) 0 ((rd4 f0 ln (O 2, g)).2.1)), (rd5 f0 ln (O 2, g)), 0, 0, nx, pl, f0, f1, (iter (fun k f => va_up f k 0) 2 0 f2), (loadR y w ln), ((loadQ (loadY y) w ln).2.2.2.2.2.1), (vp_updL fo 0 (((rd4 f0 ln (O 2, g)).2.1 0 7).toInt64)), hP, hD, hS, hG1, lv_sub hl [2, 3, 4, 5, 6] rfl⟩
  | some E =>
    have hG1 := st.s
    refine lv_iload hx hb dL_law_496 (lv_at hl 1 rfl) ?_
    refine lv_if_ne (tgt := 513) hx hb dL_law_498 (by decide) (fun _ => ?_) (fun c1 => absurd c1 kC_some)
    refine lv_goto (tgt := 3239) hx hb dL_law_513 (by decide) ?_
    refine W.widen (k := cells + 5) (n := slots + 30) (by omega) (by omega) ?_
    have hP : va_P D vwCl ((OUT T ob fo :: WIN T v B (va_up O 2 ((rd4 f0 ln (O 2, g)).2.1)) (rd5 f0 ln (O 2, g)) 0 un nx pl f0 f1 f2) ++ REF T b (loadR y w ln) ((loadQ (loadY y) w ln).2.2.2.2.2.1)) H := hP
    have hD : va_D A ((OUT T ob fo :: WIN T v B (va_up O 2 ((rd4 f0 ln (O 2, g)).2.1)) (rd5 f0 ln (O 2, g)) 0 un nx pl f0 f1 f2) ++ REF T b (loadR y w ln) ((loadQ (loadY y) w ln).2.2.2.2.2.1)) := hD
    exact kk _ _ _ ⟨(va_up O 2 ((rd4 f0 ln (O 2, g)).2.1)), (rd5 f0 ln (O 2, g)), 0, un, nx, pl, f0, f1, f2, (loadR y w ln), ((loadQ (loadY y) w ln).2.2.2.2.2.1), fo, hP, hD, hS, hG1, lv_sub hl [2, 3, 4, 5, 6] rfl⟩

set_option maxHeartbeats 4000000 in
set_option maxRecDepth 100000 in
theorem arm_3 (X : LCX p l s m args c D T aK aV A sc L xs) {i : Nat} (hi : i + 6 ≤ L) {H : Heap} {locs : List Loc} {ls : Array Slot} {cells slots : Nat} (hcs : cells + 5 ≤ room_1.cells ∧ slots + 30 ≤ room_1.slots) (h : LST s D T A sc v B b ob i H locs ls) (kk : ∀ (H1 : Heap) (locs1 : List Loc) (ls1 : Array Slot), LST s D T A sc v B b ob i H1 locs1 ls1 → W p l e room_1 s m args below meth c H1 locs1 (cells + 5) (slots + 30) Q (F0 m 3239 ls1 [])) : W p l e room_1 s m args below meth c H locs cells slots Q (F0 m 516 ls []) := by
  obtain ⟨hl9, hx, hb, hml, hown, hts, hX, hsc, hscA, hA, hC, hN, hK, hL⟩ := X
  obtain ⟨O, g, ln, un, nx, pl, f0, f1, f2, y, w, fo, hP, hD, hS, hG, hl⟩ := h
  obtain ⟨N, K, C, nt, hn, h9⟩ := id hG.1
  refine lv_aload_n hx hb dL_law_516 rfl (lv_at hl 1 rfl) ?_
  refine rdV (As := []) (rest := []) ⟨hx, hb, hml, hown, hts⟩ (c_X9_hasError l D T v B O g ln un nx pl f0 f1 f2) (cwV 0 hts gl_X9_hasError rfl rfl rfl (by decide +kernel) ⟨Nat.le_of_ble_eq_true rfl, Nat.le_of_ble_eq_true rfl⟩) hK ((Foc.mid _ _ [] _).subP hP) 0 rfl rfl rfl hl.1 rfl (Nat.le_of_ble_eq_true rfl) ⟨by omega, by omega⟩ dL_law_517 ?_
  refine lv_aload_n hx hb dL_law_520 rfl (lv_at hl 2 rfl) ?_
  refine wrVi (As := []) (rest := [.int (bI g.2.2.2.1)]) ⟨hx, hb, hml, hown, hts⟩ (c_X10_hasError l D T b y w _) (cwV 0 hts gl_X10_hasError rfl rfl rfl (by decide +kernel) ⟨Nat.le_of_ble_eq_true rfl, Nat.le_of_ble_eq_true rfl⟩) (Foc.rgt _ _ _) hK hP hD hS hA 0 rfl rfl rfl hl.1 rfl (Nat.le_of_ble_eq_true rfl) ⟨by omega, by omega⟩ dL_law_521 (fun H locs hP hD hS => ?_)
  refine lv_icmp_eq (tgt := 3239) hx hb dL_law_524 (by decide) (fun _ => ?_) (fun c1 => absurd (eq_hasError hG) c1)
  refine W.widen (k := cells + 5) (n := slots + 30) (by omega) (by omega) ?_
  have hP : va_P D vwCl ((OUT T ob fo :: WIN T v B O g ln un nx pl f0 f1 f2) ++ REF T b (yS y 3 0) w) H := hP
  have hD : va_D A ((OUT T ob fo :: WIN T v B O g ln un nx pl f0 f1 f2) ++ REF T b (yS y 3 0) w) := hD
  exact kk _ _ _ ⟨O, g, ln, un, nx, pl, f0, f1, f2, (yS y 3 0), w, fo, hP, hD, hS, (hG.thr 0), lv_sub hl [0, 1, 2, 3, 4] rfl⟩

set_option maxHeartbeats 4000000 in
set_option maxRecDepth 100000 in
theorem arm_4 (X : LCX p l s m args c D T aK aV A sc L xs) {i : Nat} (hi : i + 6 ≤ L) {H : Heap} {locs : List Loc} {ls : Array Slot} {cells slots : Nat} (hcs : cells + 5 ≤ room_1.cells ∧ slots + 30 ≤ room_1.slots) (h : LST s D T A sc v B b ob i H locs ls) (kk : ∀ (H1 : Heap) (locs1 : List Loc) (ls1 : Array Slot), LST s D T A sc v B b ob i H1 locs1 ls1 → W p l e room_1 s m args below meth c H1 locs1 (cells + 5) (slots + 30) Q (F0 m 3239 ls1 [])) : W p l e room_1 s m args below meth c H locs cells slots Q (F0 m 529 ls []) := by
  obtain ⟨hl9, hx, hb, hml, hown, hts, hX, hsc, hscA, hA, hC, hN, hK, hL⟩ := X
  obtain ⟨O, g, ln, un, nx, pl, f0, f1, f2, y, w, fo, hP, hD, hS, hG, hl⟩ := h
  obtain ⟨N, K, C, nt, hn, h9⟩ := id hG.1
  refine lv_aload_n hx hb dL_law_529 rfl (lv_at hl 1 rfl) ?_
  refine lv_aload_n hx hb dL_law_530 rfl (lv_at hl 3 rfl) ?_
  refine wlSi (As := [.ref (v 0), .ref ob]) (rest := []) ⟨hx, hb, hml, hown, hts⟩ (c_L_errorOffset l hl9 D T aK aV v B O g ln un nx pl f0 f1 f2 ob fo  _) (vx_cwSW 2 hts gl_L_errorOffset rfl rfl rfl (by decide +kernel) ⟨Nat.le_of_ble_eq_true rfl, Nat.le_of_ble_eq_true rfl⟩) (Foc.lft _ _ _) hC hN hK hP hD hS hA rfl hl.1 rfl (Nat.le_of_ble_eq_true rfl) ⟨by omega, by omega⟩ dL_law_531 (fun H locs hP hD hS => ?_)
  refine lv_istore (lv' := [(5, .int (kC "java/util/NoSuchElementException" (chkB (g.2.2.2.1) "java/util/NoSuchElementException"))), (0, .ref sc), (1, .ref (v 0)), (2, .ref (b 0)), (3, .ref ob), (4, .int (nI i))]) hx hb dL_law_534 hl (by decide) rfl (fun ls hl => ?_)
  refine lv_aload_n hx hb dL_law_536 rfl (lv_at hl 3 rfl) ?_
  refine wrVi (As := []) (rest := []) ⟨hx, hb, hml, hown, hts⟩ (c_X10_errorOffset l D T b y w  _) (cwV 0 hts gl_X10_errorOffset rfl rfl rfl (by decide +kernel) ⟨Nat.le_of_ble_eq_true rfl, Nat.le_of_ble_eq_true rfl⟩) (Foc.rgt _ _ _) hK hP hD hS hA 0 rfl rfl rfl hl.1 rfl (Nat.le_of_ble_eq_true rfl) ⟨by omega, by omega⟩ dL_law_537 (fun H locs hP hD hS => ?_)
  refine lv_istore (lv' := [(6, .int (if y 0 2 < 0 then 0 else y 0 2)), (5, .int (kC "java/util/NoSuchElementException" (chkB (g.2.2.2.1) "java/util/NoSuchElementException"))), (0, .ref sc), (1, .ref (v 0)), (2, .ref (b 0)), (3, .ref ob), (4, .int (nI i))]) hx hb dL_law_540 hl (by decide) rfl (fun ls hl => ?_)
  refine lv_aload_n hx hb dL_law_542 rfl (lv_at hl 4 rfl) ?_
  refine rdV (As := []) (rest := []) ⟨hx, hb, hml, hown, hts⟩ (c_X10_thrown l D T b (yS y 3 (if y 0 2 < 0 then 1 else 0)) w) (cwV 0 hts gl_X10_thrown rfl rfl rfl (by decide +kernel) ⟨Nat.le_of_ble_eq_true rfl, Nat.le_of_ble_eq_true rfl⟩) hK ((Foc.rgt _ _ []).subP hP) 0 rfl rfl rfl hl.1 rfl (Nat.le_of_ble_eq_true rfl) ⟨by omega, by omega⟩ dL_law_543 ?_
  refine lv_iload hx hb dL_law_546 (lv_at hl 1 rfl) ?_
  have st := st_errorOffset hG 
  have hk := st.code
  refine lv_icmp_eq (tgt := 553) hx hb dL_law_548 (by decide) (fun _ => ?_) (fun c1 => absurd hk c1)
  generalize hcd : (chkB (g.2.2.2.1) "java/util/NoSuchElementException") = cd at st hP hD hl
  cases cd with
  | none =>
    obtain ⟨eV, hG1⟩ := st.n
    refine lv_iload hx hb dL_law_553 (lv_at hl 1 rfl) ?_
    refine lv_if_ne (tgt := 570) hx hb dL_law_555 (by decide) (fun c1 => absurd rfl c1) (fun _ => ?_)
    have hP : va_P D vwCl ((OUT T ob (vp_updL fo 0 ((g.2.2.2.2).toInt64)) :: WIN T v B O g ln un nx pl f0 f1 f2) ++ REF T b (yS y 3 (if y 0 2 < 0 then 1 else 0)) w) H := hP
    have hD : va_D A ((OUT T ob (vp_updL fo 0 ((g.2.2.2.2).toInt64)) :: WIN T v B O g ln un nx pl f0 f1 f2) ++ REF T b (yS y 3 (if y 0 2 < 0 then 1 else 0)) w) := hD
    refine lv_aload_n hx hb dL_law_558 rfl (lv_at hl 5 rfl) ?_
    refine lv_iconst (v := 0) hx hb dL_law_559 (by decide) ?_
    refine laldO hx hb hK hP dL_law_560 ?_
    refine lv_iload hx hb dL_law_561 (lv_at hl 0 rfl) ?_
    refine lv_i2l (v := (if y 0 2 < 0 then 0 else y 0 2).toInt64) hx hb dL_law_563 rfl ?_
    refine W.lcmp hx hb dL_law_564 ?_
    refine lv_if_eq (tgt := 570) hx hb dL_law_565 (by decide) (fun _ => ?_) (fun c1 => absurd ((lg_cmp_eq _ _).mpr eV) c1)
    refine lv_goto (tgt := 3239) hx hb dL_law_570 (by decide) ?_
    refine W.widen (k := cells + 5) (n := slots + 30) (by omega) (by omega) ?_
    have hP : va_P D vwCl ((OUT T ob (vp_updL fo 0 ((g.2.2.2.2).toInt64)) :: WIN T v B O g ln un nx pl f0 f1 f2) ++ REF T b (yS y 3 (if y 0 2 < 0 then 1 else 0)) w) H := hP
    have hD : va_D A ((OUT T ob (vp_updL fo 0 ((g.2.2.2.2).toInt64)) :: WIN T v B O g ln un nx pl f0 f1 f2) ++ REF T b (yS y 3 (if y 0 2 < 0 then 1 else 0)) w) := hD
    exact kk _ _ _ ⟨O, g, ln, un, nx, pl, f0, f1, f2, (yS y 3 (if y 0 2 < 0 then 1 else 0)), w, (vp_updL fo 0 ((g.2.2.2.2).toInt64)), hP, hD, hS, hG1, lv_sub hl [2, 3, 4, 5, 6] rfl⟩
  | some E =>
    have hG1 := st.s
    refine lv_iload hx hb dL_law_553 (lv_at hl 1 rfl) ?_
    refine lv_if_ne (tgt := 570) hx hb dL_law_555 (by decide) (fun _ => ?_) (fun c1 => absurd c1 kC_some)
    refine lv_goto (tgt := 3239) hx hb dL_law_570 (by decide) ?_
    refine W.widen (k := cells + 5) (n := slots + 30) (by omega) (by omega) ?_
    have hP : va_P D vwCl ((OUT T ob fo :: WIN T v B O g ln un nx pl f0 f1 f2) ++ REF T b (yS y 3 (if y 0 2 < 0 then 1 else 0)) w) H := hP
    have hD : va_D A ((OUT T ob fo :: WIN T v B O g ln un nx pl f0 f1 f2) ++ REF T b (yS y 3 (if y 0 2 < 0 then 1 else 0)) w) := hD
    exact kk _ _ _ ⟨O, g, ln, un, nx, pl, f0, f1, f2, (yS y 3 (if y 0 2 < 0 then 1 else 0)), w, fo, hP, hD, hS, hG1, lv_sub hl [2, 3, 4, 5, 6] rfl⟩

set_option maxHeartbeats 4000000 in
set_option maxRecDepth 100000 in
theorem arm_5 (X : LCX p l s m args c D T aK aV A sc L xs) {i : Nat} (hi : i + 6 ≤ L) {H : Heap} {locs : List Loc} {ls : Array Slot} {cells slots : Nat} (hcs : cells + 5 ≤ room_1.cells ∧ slots + 30 ≤ room_1.slots) (h : LST s D T A sc v B b ob i H locs ls) (kk : ∀ (H1 : Heap) (locs1 : List Loc) (ls1 : Array Slot), LST s D T A sc v B b ob i H1 locs1 ls1 → W p l e room_1 s m args below meth c H1 locs1 (cells + 5) (slots + 30) Q (F0 m 3239 ls1 [])) : W p l e room_1 s m args below meth c H locs cells slots Q (F0 m 573 ls []) := by
  obtain ⟨hl9, hx, hb, hml, hown, hts, hX, hsc, hscA, hA, hC, hN, hK, hL⟩ := X
  obtain ⟨O, g, ln, un, nx, pl, f0, f1, f2, y, w, fo, hP, hD, hS, hG, hl⟩ := h
  obtain ⟨N, K, C, nt, hn, h9⟩ := id hG.1
  refine lv_aload_n hx hb dL_law_573 rfl (lv_at hl 1 rfl) ?_
  refine rdV (As := []) (rest := []) ⟨hx, hb, hml, hown, hts⟩ (c_X9_night l D T v B O g ln un nx pl f0 f1 f2) (cwV 0 hts gl_X9_night rfl rfl rfl (by decide +kernel) ⟨Nat.le_of_ble_eq_true rfl, Nat.le_of_ble_eq_true rfl⟩) hK ((Foc.mid _ _ [] _).subP hP) 0 rfl rfl rfl hl.1 rfl (Nat.le_of_ble_eq_true rfl) ⟨by omega, by omega⟩ dL_law_574 ?_
  refine lv_aload_n hx hb dL_law_577 rfl (lv_at hl 2 rfl) ?_
  refine wrVi (As := []) (rest := [.int ((O 0) 0 0)]) ⟨hx, hb, hml, hown, hts⟩ (c_X10_night l D T b y w _) (cwV 0 hts gl_X10_night rfl rfl rfl (by decide +kernel) ⟨Nat.le_of_ble_eq_true rfl, Nat.le_of_ble_eq_true rfl⟩) (Foc.rgt _ _ _) hK hP hD hS hA 0 rfl rfl rfl hl.1 rfl (Nat.le_of_ble_eq_true rfl) ⟨by omega, by omega⟩ dL_law_578 (fun H locs hP hD hS => ?_)
  refine lv_icmp_eq (tgt := 3239) hx hb dL_law_581 (by decide) (fun _ => ?_) (fun c1 => absurd (eq_night hn) c1)
  refine W.widen (k := cells + 5) (n := slots + 30) (by omega) (by omega) ?_
  have hP : va_P D vwCl ((OUT T ob fo :: WIN T v B O g ln un nx pl f0 f1 f2) ++ REF T b (yS y 3 0) w) H := hP
  have hD : va_D A ((OUT T ob fo :: WIN T v B O g ln un nx pl f0 f1 f2) ++ REF T b (yS y 3 0) w) := hD
  exact kk _ _ _ ⟨O, g, ln, un, nx, pl, f0, f1, f2, (yS y 3 0), w, fo, hP, hD, hS, (hG.thr 0), lv_sub hl [0, 1, 2, 3, 4] rfl⟩

set_option maxHeartbeats 4000000 in
set_option maxRecDepth 100000 in
theorem arm_6 (X : LCX p l s m args c D T aK aV A sc L xs) {i : Nat} (hi : i + 6 ≤ L) {H : Heap} {locs : List Loc} {ls : Array Slot} {cells slots : Nat} (hcs : cells + 5 ≤ room_1.cells ∧ slots + 30 ≤ room_1.slots) (h : LST s D T A sc v B b ob i H locs ls) (kk : ∀ (H1 : Heap) (locs1 : List Loc) (ls1 : Array Slot), LST s D T A sc v B b ob i H1 locs1 ls1 → W p l e room_1 s m args below meth c H1 locs1 (cells + 5) (slots + 30) Q (F0 m 3239 ls1 [])) : W p l e room_1 s m args below meth c H locs cells slots Q (F0 m 586 ls []) := by
  obtain ⟨hl9, hx, hb, hml, hown, hts, hX, hsc, hscA, hA, hC, hN, hK, hL⟩ := X
  obtain ⟨O, g, ln, un, nx, pl, f0, f1, f2, y, w, fo, hP, hD, hS, hG, hl⟩ := h
  obtain ⟨N, K, C, nt, hn, h9⟩ := id hG.1
  obtain ⟨z1, hz1⟩ : ∃ z, xs (i + 1) = z := ⟨_, rfl⟩
  refine lv_aload_n hx hb dL_law_586 rfl (lv_at hl 1 rfl) ?_
  refine lv_aload_n hx hb dL_law_587 rfl (lv_at hl 0 rfl) ?_
  refine lv_iload hx hb dL_law_588 (lv_at hl 4 rfl) ?_
  refine lv_iconst (v := 1) hx hb dL_law_590 (by decide) ?_
  refine lv_iadd hx hb dL_law_591 ?_
  refine endI (r := nI (i + 1)) (nI_add i 1) ?_
  refine sldN hx hb hX hsc hscA hS hz1 (by omega) hL dL_law_592 ?_
  refine lv_aload_n hx hb dL_law_593 rfl (lv_at hl 3 rfl) ?_
  refine wlSi (As := [.ref (v 0), .int z1, .ref ob]) (rest := []) ⟨hx, hb, hml, hown, hts⟩ (c_L_lightOf l hl9 D T aK aV v B O g ln un nx pl f0 f1 f2 ob fo z1 N K C nt hn.oi _) (vx_cwSW 3 hts gl_L_lightOf rfl rfl rfl (by decide +kernel) ⟨Nat.le_of_ble_eq_true rfl, Nat.le_of_ble_eq_true rfl⟩) (Foc.lft _ _ _) hC hN hK hP hD hS hA rfl hl.1 rfl (Nat.le_of_ble_eq_true rfl) ⟨by omega, by omega⟩ dL_law_594 (fun H locs hP hD hS => ?_)
  refine lv_istore (lv' := [(5, .int (kC "java/lang/IllegalArgumentException" (chkB (rg z1 0 2000) "java/lang/IllegalArgumentException"))), (0, .ref sc), (1, .ref (v 0)), (2, .ref (b 0)), (3, .ref ob), (4, .int (nI i))]) hx hb dL_law_597 hl (by decide) rfl (fun ls hl => ?_)
  refine lv_aload_n hx hb dL_law_599 rfl (lv_at hl 3 rfl) ?_
  refine lv_aload_n hx hb dL_law_600 rfl (lv_at hl 1 rfl) ?_
  refine lv_iload hx hb dL_law_601 (lv_at hl 5 rfl) ?_
  refine lv_iconst (v := 1) hx hb dL_law_603 (by decide) ?_
  refine lv_iadd hx hb dL_law_604 ?_
  refine endI (r := nI (i + 1)) (nI_add i 1) ?_
  refine sldN hx hb hX hsc hscA hS hz1 (by omega) hL dL_law_605 ?_
  refine wrVi (As := [.int z1]) (rest := []) ⟨hx, hb, hml, hown, hts⟩ (c_X10_lightOf l D T b y w z1 N K C nt hn.ri _) (cwV 1 hts gl_X10_lightOf rfl rfl rfl (by decide +kernel) ⟨Nat.le_of_ble_eq_true rfl, Nat.le_of_ble_eq_true rfl⟩) (Foc.rgt _ _ _) hK hP hD hS hA 0 rfl rfl rfl hl.1 rfl (Nat.le_of_ble_eq_true rfl) ⟨by omega, by omega⟩ dL_law_606 (fun H locs hP hD hS => ?_)
  refine lv_istore (lv' := [(6, .int (if rg z1 0 2000 then nI (lightN z1.toNatClampNeg) else 0)), (5, .int (kC "java/lang/IllegalArgumentException" (chkB (rg z1 0 2000) "java/lang/IllegalArgumentException"))), (0, .ref sc), (1, .ref (v 0)), (2, .ref (b 0)), (3, .ref ob), (4, .int (nI i))]) hx hb dL_law_609 hl (by decide) rfl (fun ls hl => ?_)
  refine lv_aload_n hx hb dL_law_611 rfl (lv_at hl 4 rfl) ?_
  refine rdV (As := []) (rest := []) ⟨hx, hb, hml, hown, hts⟩ (c_X10_thrown l D T b (yS y 3 (if rg z1 0 2000 then 0 else 1)) w) (cwV 0 hts gl_X10_thrown rfl rfl rfl (by decide +kernel) ⟨Nat.le_of_ble_eq_true rfl, Nat.le_of_ble_eq_true rfl⟩) hK ((Foc.rgt _ _ []).subP hP) 0 rfl rfl rfl hl.1 rfl (Nat.le_of_ble_eq_true rfl) ⟨by omega, by omega⟩ dL_law_612 ?_
  refine lv_iload hx hb dL_law_615 (lv_at hl 1 rfl) ?_
  have st := st_lightOf hG hn z1
  have hk := st.code
  refine lv_icmp_eq (tgt := 622) hx hb dL_law_617 (by decide) (fun _ => ?_) (fun c1 => absurd hk c1)
  generalize hcd : (chkB (rg z1 0 2000) "java/lang/IllegalArgumentException") = cd at st hP hD hl
  cases cd with
  | none =>
    obtain ⟨eV, hG1⟩ := st.n
    refine lv_iload hx hb dL_law_622 (lv_at hl 1 rfl) ?_
    refine lv_if_ne (tgt := 639) hx hb dL_law_624 (by decide) (fun c1 => absurd rfl c1) (fun _ => ?_)
    have hP : va_P D vwCl ((OUT T ob (vp_updL fo 0 ((nI (lightN z1.toNatClampNeg)).toInt64)) :: WIN T v B O g ln un nx pl f0 f1 f2) ++ REF T b (yS y 3 (if rg z1 0 2000 then 0 else 1)) w) H := hP
    have hD : va_D A ((OUT T ob (vp_updL fo 0 ((nI (lightN z1.toNatClampNeg)).toInt64)) :: WIN T v B O g ln un nx pl f0 f1 f2) ++ REF T b (yS y 3 (if rg z1 0 2000 then 0 else 1)) w) := hD
    refine lv_aload_n hx hb dL_law_627 rfl (lv_at hl 5 rfl) ?_
    refine lv_iconst (v := 0) hx hb dL_law_628 (by decide) ?_
    refine laldO hx hb hK hP dL_law_629 ?_
    refine lv_iload hx hb dL_law_630 (lv_at hl 0 rfl) ?_
    refine lv_i2l (v := (if rg z1 0 2000 then nI (lightN z1.toNatClampNeg) else 0).toInt64) hx hb dL_law_632 rfl ?_
    refine W.lcmp hx hb dL_law_633 ?_
    refine lv_if_eq (tgt := 639) hx hb dL_law_634 (by decide) (fun _ => ?_) (fun c1 => absurd ((lg_cmp_eq _ _).mpr eV) c1)
    refine lv_goto (tgt := 3239) hx hb dL_law_639 (by decide) ?_
    refine W.widen (k := cells + 5) (n := slots + 30) (by omega) (by omega) ?_
    have hP : va_P D vwCl ((OUT T ob (vp_updL fo 0 ((nI (lightN z1.toNatClampNeg)).toInt64)) :: WIN T v B O g ln un nx pl f0 f1 f2) ++ REF T b (yS y 3 (if rg z1 0 2000 then 0 else 1)) w) H := hP
    have hD : va_D A ((OUT T ob (vp_updL fo 0 ((nI (lightN z1.toNatClampNeg)).toInt64)) :: WIN T v B O g ln un nx pl f0 f1 f2) ++ REF T b (yS y 3 (if rg z1 0 2000 then 0 else 1)) w) := hD
    exact kk _ _ _ ⟨O, g, ln, un, nx, pl, f0, f1, f2, (yS y 3 (if rg z1 0 2000 then 0 else 1)), w, (vp_updL fo 0 ((nI (lightN z1.toNatClampNeg)).toInt64)), hP, hD, hS, hG1, lv_sub hl [2, 3, 4, 5, 6] rfl⟩
  | some E =>
    have hG1 := st.s
    refine lv_iload hx hb dL_law_622 (lv_at hl 1 rfl) ?_
    refine lv_if_ne (tgt := 639) hx hb dL_law_624 (by decide) (fun _ => ?_) (fun c1 => absurd c1 kC_some)
    refine lv_goto (tgt := 3239) hx hb dL_law_639 (by decide) ?_
    refine W.widen (k := cells + 5) (n := slots + 30) (by omega) (by omega) ?_
    have hP : va_P D vwCl ((OUT T ob fo :: WIN T v B O g ln un nx pl f0 f1 f2) ++ REF T b (yS y 3 (if rg z1 0 2000 then 0 else 1)) w) H := hP
    have hD : va_D A ((OUT T ob fo :: WIN T v B O g ln un nx pl f0 f1 f2) ++ REF T b (yS y 3 (if rg z1 0 2000 then 0 else 1)) w) := hD
    exact kk _ _ _ ⟨O, g, ln, un, nx, pl, f0, f1, f2, (yS y 3 (if rg z1 0 2000 then 0 else 1)), w, fo, hP, hD, hS, hG1, lv_sub hl [2, 3, 4, 5, 6] rfl⟩

set_option maxHeartbeats 4000000 in
set_option maxRecDepth 100000 in
theorem arm_7 (X : LCX p l s m args c D T aK aV A sc L xs) {i : Nat} (hi : i + 6 ≤ L) {H : Heap} {locs : List Loc} {ls : Array Slot} {cells slots : Nat} (hcs : cells + 5 ≤ room_1.cells ∧ slots + 30 ≤ room_1.slots) (h : LST s D T A sc v B b ob i H locs ls) (kk : ∀ (H1 : Heap) (locs1 : List Loc) (ls1 : Array Slot), LST s D T A sc v B b ob i H1 locs1 ls1 → W p l e room_1 s m args below meth c H1 locs1 (cells + 5) (slots + 30) Q (F0 m 3239 ls1 [])) : W p l e room_1 s m args below meth c H locs cells slots Q (F0 m 642 ls []) := by
  obtain ⟨hl9, hx, hb, hml, hown, hts, hX, hsc, hscA, hA, hC, hN, hK, hL⟩ := X
  obtain ⟨O, g, ln, un, nx, pl, f0, f1, f2, y, w, fo, hP, hD, hS, hG, hl⟩ := h
  obtain ⟨N, K, C, nt, hn, h9⟩ := id hG.1
  obtain ⟨z1, hz1⟩ : ∃ z, xs (i + 1) = z := ⟨_, rfl⟩
  refine lv_aload_n hx hb dL_law_642 rfl (lv_at hl 1 rfl) ?_
  refine lv_aload_n hx hb dL_law_643 rfl (lv_at hl 0 rfl) ?_
  refine lv_iload hx hb dL_law_644 (lv_at hl 4 rfl) ?_
  refine lv_iconst (v := 1) hx hb dL_law_646 (by decide) ?_
  refine lv_iadd hx hb dL_law_647 ?_
  refine endI (r := nI (i + 1)) (nI_add i 1) ?_
  refine sldN hx hb hX hsc hscA hS hz1 (by omega) hL dL_law_648 ?_
  refine lv_aload_n hx hb dL_law_649 rfl (lv_at hl 3 rfl) ?_
  refine wlSi (As := [.ref (v 0), .int z1, .ref ob]) (rest := []) ⟨hx, hb, hml, hown, hts⟩ (c_L_tideOf l hl9 D T aK aV v B O g ln un nx pl f0 f1 f2 ob fo z1 N K C nt hn.oi _) (vx_cwSW 3 hts gl_L_tideOf rfl rfl rfl (by decide +kernel) ⟨Nat.le_of_ble_eq_true rfl, Nat.le_of_ble_eq_true rfl⟩) (Foc.lft _ _ _) hC hN hK hP hD hS hA rfl hl.1 rfl (Nat.le_of_ble_eq_true rfl) ⟨by omega, by omega⟩ dL_law_650 (fun H locs hP hD hS => ?_)
  refine lv_istore (lv' := [(5, .int (kC "java/lang/IllegalArgumentException" (chkB (rg z1 0 2000) "java/lang/IllegalArgumentException"))), (0, .ref sc), (1, .ref (v 0)), (2, .ref (b 0)), (3, .ref ob), (4, .int (nI i))]) hx hb dL_law_653 hl (by decide) rfl (fun ls hl => ?_)
  refine lv_aload_n hx hb dL_law_655 rfl (lv_at hl 3 rfl) ?_
  refine lv_aload_n hx hb dL_law_656 rfl (lv_at hl 1 rfl) ?_
  refine lv_iload hx hb dL_law_657 (lv_at hl 5 rfl) ?_
  refine lv_iconst (v := 1) hx hb dL_law_659 (by decide) ?_
  refine lv_iadd hx hb dL_law_660 ?_
  refine endI (r := nI (i + 1)) (nI_add i 1) ?_
  refine sldN hx hb hX hsc hscA hS hz1 (by omega) hL dL_law_661 ?_
  refine wrVi (As := [.int z1]) (rest := []) ⟨hx, hb, hml, hown, hts⟩ (c_X10_tideOf l D T b y w z1 N K C nt hn.ri _) (cwV 1 hts gl_X10_tideOf rfl rfl rfl (by decide +kernel) ⟨Nat.le_of_ble_eq_true rfl, Nat.le_of_ble_eq_true rfl⟩) (Foc.rgt _ _ _) hK hP hD hS hA 0 rfl rfl rfl hl.1 rfl (Nat.le_of_ble_eq_true rfl) ⟨by omega, by omega⟩ dL_law_662 (fun H locs hP hD hS => ?_)
  refine lv_istore (lv' := [(6, .int (if rg z1 0 2000 then nI (tideN z1.toNatClampNeg) else 0)), (5, .int (kC "java/lang/IllegalArgumentException" (chkB (rg z1 0 2000) "java/lang/IllegalArgumentException"))), (0, .ref sc), (1, .ref (v 0)), (2, .ref (b 0)), (3, .ref ob), (4, .int (nI i))]) hx hb dL_law_665 hl (by decide) rfl (fun ls hl => ?_)
  refine lv_aload_n hx hb dL_law_667 rfl (lv_at hl 4 rfl) ?_
  refine rdV (As := []) (rest := []) ⟨hx, hb, hml, hown, hts⟩ (c_X10_thrown l D T b (yS y 3 (if rg z1 0 2000 then 0 else 1)) w) (cwV 0 hts gl_X10_thrown rfl rfl rfl (by decide +kernel) ⟨Nat.le_of_ble_eq_true rfl, Nat.le_of_ble_eq_true rfl⟩) hK ((Foc.rgt _ _ []).subP hP) 0 rfl rfl rfl hl.1 rfl (Nat.le_of_ble_eq_true rfl) ⟨by omega, by omega⟩ dL_law_668 ?_
  refine lv_iload hx hb dL_law_671 (lv_at hl 1 rfl) ?_
  have st := st_tideOf hG hn z1
  have hk := st.code
  refine lv_icmp_eq (tgt := 678) hx hb dL_law_673 (by decide) (fun _ => ?_) (fun c1 => absurd hk c1)
  generalize hcd : (chkB (rg z1 0 2000) "java/lang/IllegalArgumentException") = cd at st hP hD hl
  cases cd with
  | none =>
    obtain ⟨eV, hG1⟩ := st.n
    refine lv_iload hx hb dL_law_678 (lv_at hl 1 rfl) ?_
    refine lv_if_ne (tgt := 695) hx hb dL_law_680 (by decide) (fun c1 => absurd rfl c1) (fun _ => ?_)
    have hP : va_P D vwCl ((OUT T ob (vp_updL fo 0 ((nI (tideN z1.toNatClampNeg)).toInt64)) :: WIN T v B O g ln un nx pl f0 f1 f2) ++ REF T b (yS y 3 (if rg z1 0 2000 then 0 else 1)) w) H := hP
    have hD : va_D A ((OUT T ob (vp_updL fo 0 ((nI (tideN z1.toNatClampNeg)).toInt64)) :: WIN T v B O g ln un nx pl f0 f1 f2) ++ REF T b (yS y 3 (if rg z1 0 2000 then 0 else 1)) w) := hD
    refine lv_aload_n hx hb dL_law_683 rfl (lv_at hl 5 rfl) ?_
    refine lv_iconst (v := 0) hx hb dL_law_684 (by decide) ?_
    refine laldO hx hb hK hP dL_law_685 ?_
    refine lv_iload hx hb dL_law_686 (lv_at hl 0 rfl) ?_
    refine lv_i2l (v := (if rg z1 0 2000 then nI (tideN z1.toNatClampNeg) else 0).toInt64) hx hb dL_law_688 rfl ?_
    refine W.lcmp hx hb dL_law_689 ?_
    refine lv_if_eq (tgt := 695) hx hb dL_law_690 (by decide) (fun _ => ?_) (fun c1 => absurd ((lg_cmp_eq _ _).mpr eV) c1)
    refine lv_goto (tgt := 3239) hx hb dL_law_695 (by decide) ?_
    refine W.widen (k := cells + 5) (n := slots + 30) (by omega) (by omega) ?_
    have hP : va_P D vwCl ((OUT T ob (vp_updL fo 0 ((nI (tideN z1.toNatClampNeg)).toInt64)) :: WIN T v B O g ln un nx pl f0 f1 f2) ++ REF T b (yS y 3 (if rg z1 0 2000 then 0 else 1)) w) H := hP
    have hD : va_D A ((OUT T ob (vp_updL fo 0 ((nI (tideN z1.toNatClampNeg)).toInt64)) :: WIN T v B O g ln un nx pl f0 f1 f2) ++ REF T b (yS y 3 (if rg z1 0 2000 then 0 else 1)) w) := hD
    exact kk _ _ _ ⟨O, g, ln, un, nx, pl, f0, f1, f2, (yS y 3 (if rg z1 0 2000 then 0 else 1)), w, (vp_updL fo 0 ((nI (tideN z1.toNatClampNeg)).toInt64)), hP, hD, hS, hG1, lv_sub hl [2, 3, 4, 5, 6] rfl⟩
  | some E =>
    have hG1 := st.s
    refine lv_iload hx hb dL_law_678 (lv_at hl 1 rfl) ?_
    refine lv_if_ne (tgt := 695) hx hb dL_law_680 (by decide) (fun _ => ?_) (fun c1 => absurd c1 kC_some)
    refine lv_goto (tgt := 3239) hx hb dL_law_695 (by decide) ?_
    refine W.widen (k := cells + 5) (n := slots + 30) (by omega) (by omega) ?_
    have hP : va_P D vwCl ((OUT T ob fo :: WIN T v B O g ln un nx pl f0 f1 f2) ++ REF T b (yS y 3 (if rg z1 0 2000 then 0 else 1)) w) H := hP
    have hD : va_D A ((OUT T ob fo :: WIN T v B O g ln un nx pl f0 f1 f2) ++ REF T b (yS y 3 (if rg z1 0 2000 then 0 else 1)) w) := hD
    exact kk _ _ _ ⟨O, g, ln, un, nx, pl, f0, f1, f2, (yS y 3 (if rg z1 0 2000 then 0 else 1)), w, fo, hP, hD, hS, hG1, lv_sub hl [2, 3, 4, 5, 6] rfl⟩

set_option maxHeartbeats 4000000 in
set_option maxRecDepth 100000 in
theorem arm_8 (X : LCX p l s m args c D T aK aV A sc L xs) {i : Nat} (hi : i + 6 ≤ L) {H : Heap} {locs : List Loc} {ls : Array Slot} {cells slots : Nat} (hcs : cells + 5 ≤ room_1.cells ∧ slots + 30 ≤ room_1.slots) (h : LST s D T A sc v B b ob i H locs ls) (kk : ∀ (H1 : Heap) (locs1 : List Loc) (ls1 : Array Slot), LST s D T A sc v B b ob i H1 locs1 ls1 → W p l e room_1 s m args below meth c H1 locs1 (cells + 5) (slots + 30) Q (F0 m 3239 ls1 [])) : W p l e room_1 s m args below meth c H locs cells slots Q (F0 m 698 ls []) := by
  obtain ⟨hl9, hx, hb, hml, hown, hts, hX, hsc, hscA, hA, hC, hN, hK, hL⟩ := X
  obtain ⟨O, g, ln, un, nx, pl, f0, f1, f2, y, w, fo, hP, hD, hS, hG, hl⟩ := h
  obtain ⟨N, K, C, nt, hn, h9⟩ := id hG.1
  obtain ⟨z1, hz1⟩ : ∃ z, xs (i + 1) = z := ⟨_, rfl⟩
  refine lv_aload_n hx hb dL_law_698 rfl (lv_at hl 1 rfl) ?_
  refine lv_aload_n hx hb dL_law_699 rfl (lv_at hl 0 rfl) ?_
  refine lv_iload hx hb dL_law_700 (lv_at hl 4 rfl) ?_
  refine lv_iconst (v := 1) hx hb dL_law_702 (by decide) ?_
  refine lv_iadd hx hb dL_law_703 ?_
  refine endI (r := nI (i + 1)) (nI_add i 1) ?_
  refine sldN hx hb hX hsc hscA hS hz1 (by omega) hL dL_law_704 ?_
  refine lv_aload_n hx hb dL_law_705 rfl (lv_at hl 3 rfl) ?_
  refine wlSi (As := [.ref (v 0), .int z1, .ref ob]) (rest := []) ⟨hx, hb, hml, hown, hts⟩ (c_L_cloudOf l hl9 D T aK aV v B O g ln un nx pl f0 f1 f2 ob fo z1 N K C nt hn.oi _) (vx_cwSW 3 hts gl_L_cloudOf rfl rfl rfl (by decide +kernel) ⟨Nat.le_of_ble_eq_true rfl, Nat.le_of_ble_eq_true rfl⟩) (Foc.lft _ _ _) hC hN hK hP hD hS hA rfl hl.1 rfl (Nat.le_of_ble_eq_true rfl) ⟨by omega, by omega⟩ dL_law_706 (fun H locs hP hD hS => ?_)
  refine lv_istore (lv' := [(5, .int (kC "java/lang/IllegalArgumentException" (chkB (rg z1 0 2000) "java/lang/IllegalArgumentException"))), (0, .ref sc), (1, .ref (v 0)), (2, .ref (b 0)), (3, .ref ob), (4, .int (nI i))]) hx hb dL_law_709 hl (by decide) rfl (fun ls hl => ?_)
  refine lv_aload_n hx hb dL_law_711 rfl (lv_at hl 3 rfl) ?_
  refine lv_aload_n hx hb dL_law_712 rfl (lv_at hl 1 rfl) ?_
  refine lv_iload hx hb dL_law_713 (lv_at hl 5 rfl) ?_
  refine lv_iconst (v := 1) hx hb dL_law_715 (by decide) ?_
  refine lv_iadd hx hb dL_law_716 ?_
  refine endI (r := nI (i + 1)) (nI_add i 1) ?_
  refine sldN hx hb hX hsc hscA hS hz1 (by omega) hL dL_law_717 ?_
  refine wrVi (As := [.int z1]) (rest := []) ⟨hx, hb, hml, hown, hts⟩ (c_X10_cloudOf l D T b y w z1 N K C nt hn.ri _) (cwV 1 hts gl_X10_cloudOf rfl rfl rfl (by decide +kernel) ⟨Nat.le_of_ble_eq_true rfl, Nat.le_of_ble_eq_true rfl⟩) (Foc.rgt _ _ _) hK hP hD hS hA 0 rfl rfl rfl hl.1 rfl (Nat.le_of_ble_eq_true rfl) ⟨by omega, by omega⟩ dL_law_718 (fun H locs hP hD hS => ?_)
  refine lv_istore (lv' := [(6, .int (if rg z1 0 2000 then y 1 (9 + z1.toNatClampNeg % C) else 0)), (5, .int (kC "java/lang/IllegalArgumentException" (chkB (rg z1 0 2000) "java/lang/IllegalArgumentException"))), (0, .ref sc), (1, .ref (v 0)), (2, .ref (b 0)), (3, .ref ob), (4, .int (nI i))]) hx hb dL_law_721 hl (by decide) rfl (fun ls hl => ?_)
  refine lv_aload_n hx hb dL_law_723 rfl (lv_at hl 4 rfl) ?_
  refine rdV (As := []) (rest := []) ⟨hx, hb, hml, hown, hts⟩ (c_X10_thrown l D T b (yS y 3 (if rg z1 0 2000 then 0 else 1)) w) (cwV 0 hts gl_X10_thrown rfl rfl rfl (by decide +kernel) ⟨Nat.le_of_ble_eq_true rfl, Nat.le_of_ble_eq_true rfl⟩) hK ((Foc.rgt _ _ []).subP hP) 0 rfl rfl rfl hl.1 rfl (Nat.le_of_ble_eq_true rfl) ⟨by omega, by omega⟩ dL_law_724 ?_
  refine lv_iload hx hb dL_law_727 (lv_at hl 1 rfl) ?_
  have st := st_cloudOf hG hn z1
  have hk := st.code
  refine lv_icmp_eq (tgt := 734) hx hb dL_law_729 (by decide) (fun _ => ?_) (fun c1 => absurd hk c1)
  generalize hcd : (chkB (rg z1 0 2000) "java/lang/IllegalArgumentException") = cd at st hP hD hl
  cases cd with
  | none =>
    obtain ⟨eV, hG1⟩ := st.n
    refine lv_iload hx hb dL_law_734 (lv_at hl 1 rfl) ?_
    refine lv_if_ne (tgt := 751) hx hb dL_law_736 (by decide) (fun c1 => absurd rfl c1) (fun _ => ?_)
    have hP : va_P D vwCl ((OUT T ob (vp_updL fo 0 (((O 0) 1 (z1.toNatClampNeg % C)).toInt64)) :: WIN T v B O g ln un nx pl f0 f1 f2) ++ REF T b (yS y 3 (if rg z1 0 2000 then 0 else 1)) w) H := hP
    have hD : va_D A ((OUT T ob (vp_updL fo 0 (((O 0) 1 (z1.toNatClampNeg % C)).toInt64)) :: WIN T v B O g ln un nx pl f0 f1 f2) ++ REF T b (yS y 3 (if rg z1 0 2000 then 0 else 1)) w) := hD
    refine lv_aload_n hx hb dL_law_739 rfl (lv_at hl 5 rfl) ?_
    refine lv_iconst (v := 0) hx hb dL_law_740 (by decide) ?_
    refine laldO hx hb hK hP dL_law_741 ?_
    refine lv_iload hx hb dL_law_742 (lv_at hl 0 rfl) ?_
    refine lv_i2l (v := (if rg z1 0 2000 then y 1 (9 + z1.toNatClampNeg % C) else 0).toInt64) hx hb dL_law_744 rfl ?_
    refine W.lcmp hx hb dL_law_745 ?_
    refine lv_if_eq (tgt := 751) hx hb dL_law_746 (by decide) (fun _ => ?_) (fun c1 => absurd ((lg_cmp_eq _ _).mpr eV) c1)
    refine lv_goto (tgt := 3239) hx hb dL_law_751 (by decide) ?_
    refine W.widen (k := cells + 5) (n := slots + 30) (by omega) (by omega) ?_
    have hP : va_P D vwCl ((OUT T ob (vp_updL fo 0 (((O 0) 1 (z1.toNatClampNeg % C)).toInt64)) :: WIN T v B O g ln un nx pl f0 f1 f2) ++ REF T b (yS y 3 (if rg z1 0 2000 then 0 else 1)) w) H := hP
    have hD : va_D A ((OUT T ob (vp_updL fo 0 (((O 0) 1 (z1.toNatClampNeg % C)).toInt64)) :: WIN T v B O g ln un nx pl f0 f1 f2) ++ REF T b (yS y 3 (if rg z1 0 2000 then 0 else 1)) w) := hD
    exact kk _ _ _ ⟨O, g, ln, un, nx, pl, f0, f1, f2, (yS y 3 (if rg z1 0 2000 then 0 else 1)), w, (vp_updL fo 0 (((O 0) 1 (z1.toNatClampNeg % C)).toInt64)), hP, hD, hS, hG1, lv_sub hl [2, 3, 4, 5, 6] rfl⟩
  | some E =>
    have hG1 := st.s
    refine lv_iload hx hb dL_law_734 (lv_at hl 1 rfl) ?_
    refine lv_if_ne (tgt := 751) hx hb dL_law_736 (by decide) (fun _ => ?_) (fun c1 => absurd c1 kC_some)
    refine lv_goto (tgt := 3239) hx hb dL_law_751 (by decide) ?_
    refine W.widen (k := cells + 5) (n := slots + 30) (by omega) (by omega) ?_
    have hP : va_P D vwCl ((OUT T ob fo :: WIN T v B O g ln un nx pl f0 f1 f2) ++ REF T b (yS y 3 (if rg z1 0 2000 then 0 else 1)) w) H := hP
    have hD : va_D A ((OUT T ob fo :: WIN T v B O g ln un nx pl f0 f1 f2) ++ REF T b (yS y 3 (if rg z1 0 2000 then 0 else 1)) w) := hD
    exact kk _ _ _ ⟨O, g, ln, un, nx, pl, f0, f1, f2, (yS y 3 (if rg z1 0 2000 then 0 else 1)), w, fo, hP, hD, hS, hG1, lv_sub hl [2, 3, 4, 5, 6] rfl⟩

set_option maxHeartbeats 4000000 in
set_option maxRecDepth 100000 in
theorem arm_9 (X : LCX p l s m args c D T aK aV A sc L xs) {i : Nat} (hi : i + 6 ≤ L) {H : Heap} {locs : List Loc} {ls : Array Slot} {cells slots : Nat} (hcs : cells + 5 ≤ room_1.cells ∧ slots + 30 ≤ room_1.slots) (h : LST s D T A sc v B b ob i H locs ls) (kk : ∀ (H1 : Heap) (locs1 : List Loc) (ls1 : Array Slot), LST s D T A sc v B b ob i H1 locs1 ls1 → W p l e room_1 s m args below meth c H1 locs1 (cells + 5) (slots + 30) Q (F0 m 3239 ls1 [])) : W p l e room_1 s m args below meth c H locs cells slots Q (F0 m 754 ls []) := by
  obtain ⟨hl9, hx, hb, hml, hown, hts, hX, hsc, hscA, hA, hC, hN, hK, hL⟩ := X
  obtain ⟨O, g, ln, un, nx, pl, f0, f1, f2, y, w, fo, hP, hD, hS, hG, hl⟩ := h
  obtain ⟨N, K, C, nt, hn, h9⟩ := id hG.1
  obtain ⟨z1, hz1⟩ : ∃ z, xs (i + 1) = z := ⟨_, rfl⟩
  refine lv_aload_n hx hb dL_law_754 rfl (lv_at hl 1 rfl) ?_
  refine lv_aload_n hx hb dL_law_755 rfl (lv_at hl 0 rfl) ?_
  refine lv_iload hx hb dL_law_756 (lv_at hl 4 rfl) ?_
  refine lv_iconst (v := 1) hx hb dL_law_758 (by decide) ?_
  refine lv_iadd hx hb dL_law_759 ?_
  refine endI (r := nI (i + 1)) (nI_add i 1) ?_
  refine sldN hx hb hX hsc hscA hS hz1 (by omega) hL dL_law_760 ?_
  refine lv_aload_n hx hb dL_law_761 rfl (lv_at hl 3 rfl) ?_
  refine wlSi (As := [.ref (v 0), .int z1, .ref ob]) (rest := []) ⟨hx, hb, hml, hown, hts⟩ (c_L_visibleLight l hl9 D T aK aV v B O g ln un nx pl f0 f1 f2 ob fo z1 N K C nt hn.oi _) (vx_cwSW 3 hts gl_L_visibleLight rfl rfl rfl (by decide +kernel) ⟨Nat.le_of_ble_eq_true rfl, Nat.le_of_ble_eq_true rfl⟩) (Foc.lft _ _ _) hC hN hK hP hD hS hA rfl hl.1 rfl (Nat.le_of_ble_eq_true rfl) ⟨by omega, by omega⟩ dL_law_762 (fun H locs hP hD hS => ?_)
  refine lv_istore (lv' := [(5, .int (kC "java/lang/IllegalArgumentException" (chkB (rg z1 0 2000) "java/lang/IllegalArgumentException"))), (0, .ref sc), (1, .ref (v 0)), (2, .ref (b 0)), (3, .ref ob), (4, .int (nI i))]) hx hb dL_law_765 hl (by decide) rfl (fun ls hl => ?_)
  refine lv_aload_n hx hb dL_law_767 rfl (lv_at hl 3 rfl) ?_
  refine lv_aload_n hx hb dL_law_768 rfl (lv_at hl 1 rfl) ?_
  refine lv_iload hx hb dL_law_769 (lv_at hl 5 rfl) ?_
  refine lv_iconst (v := 1) hx hb dL_law_771 (by decide) ?_
  refine lv_iadd hx hb dL_law_772 ?_
  refine endI (r := nI (i + 1)) (nI_add i 1) ?_
  refine sldN hx hb hX hsc hscA hS hz1 (by omega) hL dL_law_773 ?_
  refine wrVi (As := [.int z1]) (rest := []) ⟨hx, hb, hml, hown, hts⟩ (c_X10_visibleLight l D T b y w z1 N K C nt hn.ri _) (cwV 1 hts gl_X10_visibleLight rfl rfl rfl (by decide +kernel) ⟨Nat.le_of_ble_eq_true rfl, Nat.le_of_ble_eq_true rfl⟩) (Foc.rgt _ _ _) hK hP hD hS hA 0 rfl rfl rfl hl.1 rfl (Nat.le_of_ble_eq_true rfl) ⟨by omega, by omega⟩ dL_law_774 (fun H locs hP hD hS => ?_)
  refine lv_istore (lv' := [(6, .int (if rg z1 0 2000 then visI z1.toNatClampNeg (y 1 (9 + z1.toNatClampNeg % C)) else 0)), (5, .int (kC "java/lang/IllegalArgumentException" (chkB (rg z1 0 2000) "java/lang/IllegalArgumentException"))), (0, .ref sc), (1, .ref (v 0)), (2, .ref (b 0)), (3, .ref ob), (4, .int (nI i))]) hx hb dL_law_777 hl (by decide) rfl (fun ls hl => ?_)
  refine lv_aload_n hx hb dL_law_779 rfl (lv_at hl 4 rfl) ?_
  refine rdV (As := []) (rest := []) ⟨hx, hb, hml, hown, hts⟩ (c_X10_thrown l D T b (yS y 3 (if rg z1 0 2000 then 0 else 1)) w) (cwV 0 hts gl_X10_thrown rfl rfl rfl (by decide +kernel) ⟨Nat.le_of_ble_eq_true rfl, Nat.le_of_ble_eq_true rfl⟩) hK ((Foc.rgt _ _ []).subP hP) 0 rfl rfl rfl hl.1 rfl (Nat.le_of_ble_eq_true rfl) ⟨by omega, by omega⟩ dL_law_780 ?_
  refine lv_iload hx hb dL_law_783 (lv_at hl 1 rfl) ?_
  have st := st_visibleLight hG hn z1
  have hk := st.code
  refine lv_icmp_eq (tgt := 790) hx hb dL_law_785 (by decide) (fun _ => ?_) (fun c1 => absurd hk c1)
  generalize hcd : (chkB (rg z1 0 2000) "java/lang/IllegalArgumentException") = cd at st hP hD hl
  cases cd with
  | none =>
    obtain ⟨eV, hG1⟩ := st.n
    refine lv_iload hx hb dL_law_790 (lv_at hl 1 rfl) ?_
    refine lv_if_ne (tgt := 807) hx hb dL_law_792 (by decide) (fun c1 => absurd rfl c1) (fun _ => ?_)
    have hP : va_P D vwCl ((OUT T ob (vp_updL fo 0 ((visI z1.toNatClampNeg ((O 0) 1 (z1.toNatClampNeg % C))).toInt64)) :: WIN T v B O g ln un nx pl f0 f1 f2) ++ REF T b (yS y 3 (if rg z1 0 2000 then 0 else 1)) w) H := hP
    have hD : va_D A ((OUT T ob (vp_updL fo 0 ((visI z1.toNatClampNeg ((O 0) 1 (z1.toNatClampNeg % C))).toInt64)) :: WIN T v B O g ln un nx pl f0 f1 f2) ++ REF T b (yS y 3 (if rg z1 0 2000 then 0 else 1)) w) := hD
    refine lv_aload_n hx hb dL_law_795 rfl (lv_at hl 5 rfl) ?_
    refine lv_iconst (v := 0) hx hb dL_law_796 (by decide) ?_
    refine laldO hx hb hK hP dL_law_797 ?_
    refine lv_iload hx hb dL_law_798 (lv_at hl 0 rfl) ?_
    refine lv_i2l (v := (if rg z1 0 2000 then visI z1.toNatClampNeg (y 1 (9 + z1.toNatClampNeg % C)) else 0).toInt64) hx hb dL_law_800 rfl ?_
    refine W.lcmp hx hb dL_law_801 ?_
    refine lv_if_eq (tgt := 807) hx hb dL_law_802 (by decide) (fun _ => ?_) (fun c1 => absurd ((lg_cmp_eq _ _).mpr eV) c1)
    refine lv_goto (tgt := 3239) hx hb dL_law_807 (by decide) ?_
    refine W.widen (k := cells + 5) (n := slots + 30) (by omega) (by omega) ?_
    have hP : va_P D vwCl ((OUT T ob (vp_updL fo 0 ((visI z1.toNatClampNeg ((O 0) 1 (z1.toNatClampNeg % C))).toInt64)) :: WIN T v B O g ln un nx pl f0 f1 f2) ++ REF T b (yS y 3 (if rg z1 0 2000 then 0 else 1)) w) H := hP
    have hD : va_D A ((OUT T ob (vp_updL fo 0 ((visI z1.toNatClampNeg ((O 0) 1 (z1.toNatClampNeg % C))).toInt64)) :: WIN T v B O g ln un nx pl f0 f1 f2) ++ REF T b (yS y 3 (if rg z1 0 2000 then 0 else 1)) w) := hD
    exact kk _ _ _ ⟨O, g, ln, un, nx, pl, f0, f1, f2, (yS y 3 (if rg z1 0 2000 then 0 else 1)), w, (vp_updL fo 0 ((visI z1.toNatClampNeg ((O 0) 1 (z1.toNatClampNeg % C))).toInt64)), hP, hD, hS, hG1, lv_sub hl [2, 3, 4, 5, 6] rfl⟩
  | some E =>
    have hG1 := st.s
    refine lv_iload hx hb dL_law_790 (lv_at hl 1 rfl) ?_
    refine lv_if_ne (tgt := 807) hx hb dL_law_792 (by decide) (fun _ => ?_) (fun c1 => absurd c1 kC_some)
    refine lv_goto (tgt := 3239) hx hb dL_law_807 (by decide) ?_
    refine W.widen (k := cells + 5) (n := slots + 30) (by omega) (by omega) ?_
    have hP : va_P D vwCl ((OUT T ob fo :: WIN T v B O g ln un nx pl f0 f1 f2) ++ REF T b (yS y 3 (if rg z1 0 2000 then 0 else 1)) w) H := hP
    have hD : va_D A ((OUT T ob fo :: WIN T v B O g ln un nx pl f0 f1 f2) ++ REF T b (yS y 3 (if rg z1 0 2000 then 0 else 1)) w) := hD
    exact kk _ _ _ ⟨O, g, ln, un, nx, pl, f0, f1, f2, (yS y 3 (if rg z1 0 2000 then 0 else 1)), w, fo, hP, hD, hS, hG1, lv_sub hl [2, 3, 4, 5, 6] rfl⟩

set_option maxHeartbeats 4000000 in
set_option maxRecDepth 100000 in
theorem arm_10 (X : LCX p l s m args c D T aK aV A sc L xs) {i : Nat} (hi : i + 6 ≤ L) {H : Heap} {locs : List Loc} {ls : Array Slot} {cells slots : Nat} (hcs : cells + 5 ≤ room_1.cells ∧ slots + 30 ≤ room_1.slots) (h : LST s D T A sc v B b ob i H locs ls) (kk : ∀ (H1 : Heap) (locs1 : List Loc) (ls1 : Array Slot), LST s D T A sc v B b ob i H1 locs1 ls1 → W p l e room_1 s m args below meth c H1 locs1 (cells + 5) (slots + 30) Q (F0 m 3239 ls1 [])) : W p l e room_1 s m args below meth c H locs cells slots Q (F0 m 810 ls []) := by
  obtain ⟨hl9, hx, hb, hml, hown, hts, hX, hsc, hscA, hA, hC, hN, hK, hL⟩ := X
  obtain ⟨O, g, ln, un, nx, pl, f0, f1, f2, y, w, fo, hP, hD, hS, hG, hl⟩ := h
  obtain ⟨N, K, C, nt, hn, h9⟩ := id hG.1
  refine lv_aload_n hx hb dL_law_810 rfl (lv_at hl 1 rfl) ?_
  refine rdV (As := []) (rest := []) ⟨hx, hb, hml, hown, hts⟩ (c_X9_glareLimit l D T v B O g ln un nx pl f0 f1 f2) (cwV 0 hts gl_X9_glareLimit rfl rfl rfl (by decide +kernel) ⟨Nat.le_of_ble_eq_true rfl, Nat.le_of_ble_eq_true rfl⟩) hK ((Foc.mid _ _ [] _).subP hP) 0 rfl rfl rfl hl.1 rfl (Nat.le_of_ble_eq_true rfl) ⟨by omega, by omega⟩ dL_law_811 ?_
  refine lv_aload_n hx hb dL_law_814 rfl (lv_at hl 2 rfl) ?_
  refine wrVi (As := []) (rest := [.int ((O 0) 0 1)]) ⟨hx, hb, hml, hown, hts⟩ (c_X10_glareLimit l D T b y w _) (cwV 0 hts gl_X10_glareLimit rfl rfl rfl (by decide +kernel) ⟨Nat.le_of_ble_eq_true rfl, Nat.le_of_ble_eq_true rfl⟩) (Foc.rgt _ _ _) hK hP hD hS hA 0 rfl rfl rfl hl.1 rfl (Nat.le_of_ble_eq_true rfl) ⟨by omega, by omega⟩ dL_law_815 (fun H locs hP hD hS => ?_)
  refine lv_icmp_eq (tgt := 3239) hx hb dL_law_818 (by decide) (fun _ => ?_) (fun c1 => absurd (eq_glareLimit hn) c1)
  refine W.widen (k := cells + 5) (n := slots + 30) (by omega) (by omega) ?_
  have hP : va_P D vwCl ((OUT T ob fo :: WIN T v B O g ln un nx pl f0 f1 f2) ++ REF T b (yS y 3 0) w) H := hP
  have hD : va_D A ((OUT T ob fo :: WIN T v B O g ln un nx pl f0 f1 f2) ++ REF T b (yS y 3 0) w) := hD
  exact kk _ _ _ ⟨O, g, ln, un, nx, pl, f0, f1, f2, (yS y 3 0), w, fo, hP, hD, hS, (hG.thr 0), lv_sub hl [0, 1, 2, 3, 4] rfl⟩

set_option maxHeartbeats 4000000 in
set_option maxRecDepth 100000 in
theorem arm_11 (X : LCX p l s m args c D T aK aV A sc L xs) {i : Nat} (hi : i + 6 ≤ L) {H : Heap} {locs : List Loc} {ls : Array Slot} {cells slots : Nat} (hcs : cells + 5 ≤ room_1.cells ∧ slots + 30 ≤ room_1.slots) (h : LST s D T A sc v B b ob i H locs ls) (kk : ∀ (H1 : Heap) (locs1 : List Loc) (ls1 : Array Slot), LST s D T A sc v B b ob i H1 locs1 ls1 → W p l e room_1 s m args below meth c H1 locs1 (cells + 5) (slots + 30) Q (F0 m 3239 ls1 [])) : W p l e room_1 s m args below meth c H locs cells slots Q (F0 m 823 ls []) := by
  obtain ⟨hl9, hx, hb, hml, hown, hts, hX, hsc, hscA, hA, hC, hN, hK, hL⟩ := X
  obtain ⟨O, g, ln, un, nx, pl, f0, f1, f2, y, w, fo, hP, hD, hS, hG, hl⟩ := h
  obtain ⟨N, K, C, nt, hn, h9⟩ := id hG.1
  refine lv_aload_n hx hb dL_law_823 rfl (lv_at hl 1 rfl) ?_
  refine rdV (As := []) (rest := []) ⟨hx, hb, hml, hown, hts⟩ (c_X9_gloomLimit l D T v B O g ln un nx pl f0 f1 f2) (cwV 0 hts gl_X9_gloomLimit rfl rfl rfl (by decide +kernel) ⟨Nat.le_of_ble_eq_true rfl, Nat.le_of_ble_eq_true rfl⟩) hK ((Foc.mid _ _ [] _).subP hP) 0 rfl rfl rfl hl.1 rfl (Nat.le_of_ble_eq_true rfl) ⟨by omega, by omega⟩ dL_law_824 ?_
  refine lv_aload_n hx hb dL_law_827 rfl (lv_at hl 2 rfl) ?_
  refine wrVi (As := []) (rest := [.int ((O 0) 0 2)]) ⟨hx, hb, hml, hown, hts⟩ (c_X10_gloomLimit l D T b y w _) (cwV 0 hts gl_X10_gloomLimit rfl rfl rfl (by decide +kernel) ⟨Nat.le_of_ble_eq_true rfl, Nat.le_of_ble_eq_true rfl⟩) (Foc.rgt _ _ _) hK hP hD hS hA 0 rfl rfl rfl hl.1 rfl (Nat.le_of_ble_eq_true rfl) ⟨by omega, by omega⟩ dL_law_828 (fun H locs hP hD hS => ?_)
  refine lv_icmp_eq (tgt := 3239) hx hb dL_law_831 (by decide) (fun _ => ?_) (fun c1 => absurd (eq_gloomLimit hn) c1)
  refine W.widen (k := cells + 5) (n := slots + 30) (by omega) (by omega) ?_
  have hP : va_P D vwCl ((OUT T ob fo :: WIN T v B O g ln un nx pl f0 f1 f2) ++ REF T b (yS y 3 0) w) H := hP
  have hD : va_D A ((OUT T ob fo :: WIN T v B O g ln un nx pl f0 f1 f2) ++ REF T b (yS y 3 0) w) := hD
  exact kk _ _ _ ⟨O, g, ln, un, nx, pl, f0, f1, f2, (yS y 3 0), w, fo, hP, hD, hS, (hG.thr 0), lv_sub hl [0, 1, 2, 3, 4] rfl⟩

set_option maxHeartbeats 4000000 in
set_option maxRecDepth 100000 in
theorem arm_12 (X : LCX p l s m args c D T aK aV A sc L xs) {i : Nat} (hi : i + 6 ≤ L) {H : Heap} {locs : List Loc} {ls : Array Slot} {cells slots : Nat} (hcs : cells + 5 ≤ room_1.cells ∧ slots + 30 ≤ room_1.slots) (h : LST s D T A sc v B b ob i H locs ls) (kk : ∀ (H1 : Heap) (locs1 : List Loc) (ls1 : Array Slot), LST s D T A sc v B b ob i H1 locs1 ls1 → W p l e room_1 s m args below meth c H1 locs1 (cells + 5) (slots + 30) Q (F0 m 3239 ls1 [])) : W p l e room_1 s m args below meth c H locs cells slots Q (F0 m 836 ls []) := by
  obtain ⟨hl9, hx, hb, hml, hown, hts, hX, hsc, hscA, hA, hC, hN, hK, hL⟩ := X
  obtain ⟨O, g, ln, un, nx, pl, f0, f1, f2, y, w, fo, hP, hD, hS, hG, hl⟩ := h
  obtain ⟨N, K, C, nt, hn, h9⟩ := id hG.1
  refine lv_aload_n hx hb dL_law_836 rfl (lv_at hl 1 rfl) ?_
  refine rdV (As := []) (rest := []) ⟨hx, hb, hml, hown, hts⟩ (c_X9_tideLimit l D T v B O g ln un nx pl f0 f1 f2) (cwV 0 hts gl_X9_tideLimit rfl rfl rfl (by decide +kernel) ⟨Nat.le_of_ble_eq_true rfl, Nat.le_of_ble_eq_true rfl⟩) hK ((Foc.mid _ _ [] _).subP hP) 0 rfl rfl rfl hl.1 rfl (Nat.le_of_ble_eq_true rfl) ⟨by omega, by omega⟩ dL_law_837 ?_
  refine lv_aload_n hx hb dL_law_840 rfl (lv_at hl 2 rfl) ?_
  refine wrVi (As := []) (rest := [.int ((O 0) 0 3)]) ⟨hx, hb, hml, hown, hts⟩ (c_X10_tideLimit l D T b y w _) (cwV 0 hts gl_X10_tideLimit rfl rfl rfl (by decide +kernel) ⟨Nat.le_of_ble_eq_true rfl, Nat.le_of_ble_eq_true rfl⟩) (Foc.rgt _ _ _) hK hP hD hS hA 0 rfl rfl rfl hl.1 rfl (Nat.le_of_ble_eq_true rfl) ⟨by omega, by omega⟩ dL_law_841 (fun H locs hP hD hS => ?_)
  refine lv_icmp_eq (tgt := 3239) hx hb dL_law_844 (by decide) (fun _ => ?_) (fun c1 => absurd (eq_tideLimit hn) c1)
  refine W.widen (k := cells + 5) (n := slots + 30) (by omega) (by omega) ?_
  have hP : va_P D vwCl ((OUT T ob fo :: WIN T v B O g ln un nx pl f0 f1 f2) ++ REF T b (yS y 3 0) w) H := hP
  have hD : va_D A ((OUT T ob fo :: WIN T v B O g ln un nx pl f0 f1 f2) ++ REF T b (yS y 3 0) w) := hD
  exact kk _ _ _ ⟨O, g, ln, un, nx, pl, f0, f1, f2, (yS y 3 0), w, fo, hP, hD, hS, (hG.thr 0), lv_sub hl [0, 1, 2, 3, 4] rfl⟩

set_option maxHeartbeats 4000000 in
set_option maxRecDepth 100000 in
theorem arm_13 (X : LCX p l s m args c D T aK aV A sc L xs) {i : Nat} (hi : i + 6 ≤ L) {H : Heap} {locs : List Loc} {ls : Array Slot} {cells slots : Nat} (hcs : cells + 5 ≤ room_1.cells ∧ slots + 30 ≤ room_1.slots) (h : LST s D T A sc v B b ob i H locs ls) (kk : ∀ (H1 : Heap) (locs1 : List Loc) (ls1 : Array Slot), LST s D T A sc v B b ob i H1 locs1 ls1 → W p l e room_1 s m args below meth c H1 locs1 (cells + 5) (slots + 30) Q (F0 m 3239 ls1 [])) : W p l e room_1 s m args below meth c H locs cells slots Q (F0 m 849 ls []) := by
  obtain ⟨hl9, hx, hb, hml, hown, hts, hX, hsc, hscA, hA, hC, hN, hK, hL⟩ := X
  obtain ⟨O, g, ln, un, nx, pl, f0, f1, f2, y, w, fo, hP, hD, hS, hG, hl⟩ := h
  obtain ⟨N, K, C, nt, hn, h9⟩ := id hG.1
  refine lv_aload_n hx hb dL_law_849 rfl (lv_at hl 1 rfl) ?_
  refine rdV (As := []) (rest := []) ⟨hx, hb, hml, hown, hts⟩ (c_X9_cloudCount l D T v B O g ln un nx pl f0 f1 f2) (cwV 0 hts gl_X9_cloudCount rfl rfl rfl (by decide +kernel) ⟨Nat.le_of_ble_eq_true rfl, Nat.le_of_ble_eq_true rfl⟩) hK ((Foc.mid _ _ [] _).subP hP) 0 rfl rfl rfl hl.1 rfl (Nat.le_of_ble_eq_true rfl) ⟨by omega, by omega⟩ dL_law_850 ?_
  refine lv_aload_n hx hb dL_law_853 rfl (lv_at hl 2 rfl) ?_
  refine wrVi (As := []) (rest := [.int ((O 0) 0 4)]) ⟨hx, hb, hml, hown, hts⟩ (c_X10_cloudCount l D T b y w _) (cwV 0 hts gl_X10_cloudCount rfl rfl rfl (by decide +kernel) ⟨Nat.le_of_ble_eq_true rfl, Nat.le_of_ble_eq_true rfl⟩) (Foc.rgt _ _ _) hK hP hD hS hA 0 rfl rfl rfl hl.1 rfl (Nat.le_of_ble_eq_true rfl) ⟨by omega, by omega⟩ dL_law_854 (fun H locs hP hD hS => ?_)
  refine lv_icmp_eq (tgt := 3239) hx hb dL_law_857 (by decide) (fun _ => ?_) (fun c1 => absurd (eq_cloudCount hn) c1)
  refine W.widen (k := cells + 5) (n := slots + 30) (by omega) (by omega) ?_
  have hP : va_P D vwCl ((OUT T ob fo :: WIN T v B O g ln un nx pl f0 f1 f2) ++ REF T b (yS y 3 0) w) H := hP
  have hD : va_D A ((OUT T ob fo :: WIN T v B O g ln un nx pl f0 f1 f2) ++ REF T b (yS y 3 0) w) := hD
  exact kk _ _ _ ⟨O, g, ln, un, nx, pl, f0, f1, f2, (yS y 3 0), w, fo, hP, hD, hS, (hG.thr 0), lv_sub hl [0, 1, 2, 3, 4] rfl⟩

set_option maxHeartbeats 4000000 in
set_option maxRecDepth 100000 in
theorem arm_14 (X : LCX p l s m args c D T aK aV A sc L xs) {i : Nat} (hi : i + 6 ≤ L) {H : Heap} {locs : List Loc} {ls : Array Slot} {cells slots : Nat} (hcs : cells + 5 ≤ room_1.cells ∧ slots + 30 ≤ room_1.slots) (h : LST s D T A sc v B b ob i H locs ls) (kk : ∀ (H1 : Heap) (locs1 : List Loc) (ls1 : Array Slot), LST s D T A sc v B b ob i H1 locs1 ls1 → W p l e room_1 s m args below meth c H1 locs1 (cells + 5) (slots + 30) Q (F0 m 3239 ls1 [])) : W p l e room_1 s m args below meth c H locs cells slots Q (F0 m 862 ls []) := by
  obtain ⟨hl9, hx, hb, hml, hown, hts, hX, hsc, hscA, hA, hC, hN, hK, hL⟩ := X
  obtain ⟨O, g, ln, un, nx, pl, f0, f1, f2, y, w, fo, hP, hD, hS, hG, hl⟩ := h
  obtain ⟨N, K, C, nt, hn, h9⟩ := id hG.1
  obtain ⟨z1, hz1⟩ : ∃ z, xs (i + 1) = z := ⟨_, rfl⟩
  obtain ⟨z2, hz2⟩ : ∃ z, xs (i + 2) = z := ⟨_, rfl⟩
  refine lv_aload_n hx hb dL_law_862 rfl (lv_at hl 1 rfl) ?_
  refine lv_aload_n hx hb dL_law_863 rfl (lv_at hl 0 rfl) ?_
  refine lv_iload hx hb dL_law_864 (lv_at hl 4 rfl) ?_
  refine lv_iconst (v := 1) hx hb dL_law_866 (by decide) ?_
  refine lv_iadd hx hb dL_law_867 ?_
  refine endI (r := nI (i + 1)) (nI_add i 1) ?_
  refine sldN hx hb hX hsc hscA hS hz1 (by omega) hL dL_law_868 ?_
  refine lv_aload_n hx hb dL_law_869 rfl (lv_at hl 0 rfl) ?_
  refine lv_iload hx hb dL_law_870 (lv_at hl 4 rfl) ?_
  refine lv_iconst (v := 2) hx hb dL_law_872 (by decide) ?_
  refine lv_iadd hx hb dL_law_873 ?_
  refine endI (r := nI (i + 2)) (nI_add i 2) ?_
  refine sldN hx hb hX hsc hscA hS hz2 (by omega) hL dL_law_874 ?_
  refine lv_aload_n hx hb dL_law_875 rfl (lv_at hl 3 rfl) ?_
  refine wlSi (As := [.ref (v 0), .int z1, .int z2, .ref ob]) (rest := []) ⟨hx, hb, hml, hown, hts⟩ (c_L_isJustified l hl9 D T aK aV v B O g ln un nx pl f0 f1 f2 ob fo z1 z2 N K C nt hn.oi _) (vx_cwSW 4 hts gl_L_isJustified rfl rfl rfl (by decide +kernel) ⟨Nat.le_of_ble_eq_true rfl, Nat.le_of_ble_eq_true rfl⟩) (Foc.lft _ _ _) hC hN hK hP hD hS hA rfl hl.1 rfl (Nat.le_of_ble_eq_true rfl) ⟨by omega, by omega⟩ dL_law_876 (fun H locs hP hD hS => ?_)
  refine lv_istore (lv' := [(5, .int (kC "java/lang/IllegalArgumentException" (orE (chkB (rg z1 0 3) "java/lang/IllegalArgumentException") (chkB (rg z2 0 2000) "java/lang/IllegalArgumentException")))), (0, .ref sc), (1, .ref (v 0)), (2, .ref (b 0)), (3, .ref ob), (4, .int (nI i))]) hx hb dL_law_879 hl (by decide) rfl (fun ls hl => ?_)
  refine lv_aload_n hx hb dL_law_881 rfl (lv_at hl 3 rfl) ?_
  refine lv_aload_n hx hb dL_law_882 rfl (lv_at hl 1 rfl) ?_
  refine lv_iload hx hb dL_law_883 (lv_at hl 5 rfl) ?_
  refine lv_iconst (v := 1) hx hb dL_law_885 (by decide) ?_
  refine lv_iadd hx hb dL_law_886 ?_
  refine endI (r := nI (i + 1)) (nI_add i 1) ?_
  refine sldN hx hb hX hsc hscA hS hz1 (by omega) hL dL_law_887 ?_
  refine lv_aload_n hx hb dL_law_888 rfl (lv_at hl 1 rfl) ?_
  refine lv_iload hx hb dL_law_889 (lv_at hl 5 rfl) ?_
  refine lv_iconst (v := 2) hx hb dL_law_891 (by decide) ?_
  refine lv_iadd hx hb dL_law_892 ?_
  refine endI (r := nI (i + 2)) (nI_add i 2) ?_
  refine sldN hx hb hX hsc hscA hS hz2 (by omega) hL dL_law_893 ?_
  refine wrVi (As := [.int z1, .int z2]) (rest := []) ⟨hx, hb, hml, hown, hts⟩ (c_X10_isJustified l D T b y w z1 z2 N K C nt hn.ri _) (cwV 2 hts gl_X10_isJustified rfl rfl rfl (by decide +kernel) ⟨Nat.le_of_ble_eq_true rfl, Nat.le_of_ble_eq_true rfl⟩) (Foc.rgt _ _ _) hK hP hD hS hA 0 rfl rfl rfl hl.1 rfl (Nat.le_of_ble_eq_true rfl) ⟨by omega, by omega⟩ dL_law_894 (fun H locs hP hD hS => ?_)
  refine lv_istore (lv' := [(6, .int (bI (rg z1 0 3 && rg z2 0 2000 && justB z1.toNatClampNeg (y 1 1) (y 1 2) (y 1 3) z2.toNatClampNeg (y 1 (9 + z2.toNatClampNeg % C))))), (5, .int (kC "java/lang/IllegalArgumentException" (orE (chkB (rg z1 0 3) "java/lang/IllegalArgumentException") (chkB (rg z2 0 2000) "java/lang/IllegalArgumentException")))), (0, .ref sc), (1, .ref (v 0)), (2, .ref (b 0)), (3, .ref ob), (4, .int (nI i))]) hx hb dL_law_897 hl (by decide) rfl (fun ls hl => ?_)
  refine lv_aload_n hx hb dL_law_899 rfl (lv_at hl 4 rfl) ?_
  refine rdV (As := []) (rest := []) ⟨hx, hb, hml, hown, hts⟩ (c_X10_thrown l D T b (yS y 3 (if rg z1 0 3 && rg z2 0 2000 then 0 else 1)) w) (cwV 0 hts gl_X10_thrown rfl rfl rfl (by decide +kernel) ⟨Nat.le_of_ble_eq_true rfl, Nat.le_of_ble_eq_true rfl⟩) hK ((Foc.rgt _ _ []).subP hP) 0 rfl rfl rfl hl.1 rfl (Nat.le_of_ble_eq_true rfl) ⟨by omega, by omega⟩ dL_law_900 ?_
  refine lv_iload hx hb dL_law_903 (lv_at hl 1 rfl) ?_
  have st := st_isJustified hG hn z1 z2
  have hk := st.code
  refine lv_icmp_eq (tgt := 910) hx hb dL_law_905 (by decide) (fun _ => ?_) (fun c1 => absurd hk c1)
  generalize hcd : (orE (chkB (rg z1 0 3) "java/lang/IllegalArgumentException") (chkB (rg z2 0 2000) "java/lang/IllegalArgumentException")) = cd at st hP hD hl
  cases cd with
  | none =>
    obtain ⟨eV, hG1⟩ := st.n
    refine lv_iload hx hb dL_law_910 (lv_at hl 1 rfl) ?_
    refine lv_if_ne (tgt := 934) hx hb dL_law_912 (by decide) (fun c1 => absurd rfl c1) (fun _ => ?_)
    have hP : va_P D vwCl ((OUT T ob (vp_updL fo 0 ((if ((justB z1.toNatClampNeg ((O 0) 0 1) ((O 0) 0 2) ((O 0) 0 3) z2.toNatClampNeg ((O 0) 1 (z2.toNatClampNeg % C)))) then 1 else 0))) :: WIN T v B O g ln un nx pl f0 f1 f2) ++ REF T b (yS y 3 (if rg z1 0 3 && rg z2 0 2000 then 0 else 1)) w) H := hP
    have hD : va_D A ((OUT T ob (vp_updL fo 0 ((if ((justB z1.toNatClampNeg ((O 0) 0 1) ((O 0) 0 2) ((O 0) 0 3) z2.toNatClampNeg ((O 0) 1 (z2.toNatClampNeg % C)))) then 1 else 0))) :: WIN T v B O g ln un nx pl f0 f1 f2) ++ REF T b (yS y 3 (if rg z1 0 3 && rg z2 0 2000 then 0 else 1)) w) := hD
    refine lv_aload_n hx hb dL_law_915 rfl (lv_at hl 5 rfl) ?_
    refine lv_iconst (v := 0) hx hb dL_law_916 (by decide) ?_
    refine laldO hx hb hK hP dL_law_917 ?_
    refine lv_iload hx hb dL_law_918 (lv_at hl 0 rfl) ?_
    have hl : lv_has ls 9 [(6, .int (bI (rg z1 0 3 && rg z2 0 2000 && justB z1.toNatClampNeg (y 1 1) (y 1 2) (y 1 3) z2.toNatClampNeg (y 1 (9 + z2.toNatClampNeg % C))))), (5, .int (kC "java/lang/IllegalArgumentException" none)), (0, .ref sc), (1, .ref (v 0)), (2, .ref (b 0)), (3, .ref ob), (4, .int (nI i))] := hl
    generalize (rg z1 0 3 && rg z2 0 2000 && justB z1.toNatClampNeg (y 1 1) (y 1 2) (y 1 3) z2.toNatClampNeg (y 1 (9 + z2.toNatClampNeg % C))) = cb at eV hl ⊢
    cases cb with
    | false =>
      have eV : (((if ((justB z1.toNatClampNeg ((O 0) 0 1) ((O 0) 0 2) ((O 0) 0 3) z2.toNatClampNeg ((O 0) 1 (z2.toNatClampNeg % C)))) then 1 else 0)) : Int64) = (0 : Int64) := eV
      refine lv_if_eq (tgt := 927) hx hb dL_law_920 (by decide) (fun _ => ?_) (fun c1 => absurd rfl c1)
      refine lv_lconst (v := 0) hx hb dL_law_927 rfl ?_
      refine W.lcmp hx hb dL_law_928 ?_
      refine lv_if_eq (tgt := 934) hx hb dL_law_929 (by decide) (fun _ => ?_) (fun c1 => absurd ((lg_cmp_eq _ _).mpr eV) c1)
      refine lv_goto (tgt := 3239) hx hb dL_law_934 (by decide) ?_
      refine W.widen (k := cells + 5) (n := slots + 30) (by omega) (by omega) ?_
      have hP : va_P D vwCl ((OUT T ob (vp_updL fo 0 ((if ((justB z1.toNatClampNeg ((O 0) 0 1) ((O 0) 0 2) ((O 0) 0 3) z2.toNatClampNeg ((O 0) 1 (z2.toNatClampNeg % C)))) then 1 else 0))) :: WIN T v B O g ln un nx pl f0 f1 f2) ++ REF T b (yS y 3 (if rg z1 0 3 && rg z2 0 2000 then 0 else 1)) w) H := hP
      have hD : va_D A ((OUT T ob (vp_updL fo 0 ((if ((justB z1.toNatClampNeg ((O 0) 0 1) ((O 0) 0 2) ((O 0) 0 3) z2.toNatClampNeg ((O 0) 1 (z2.toNatClampNeg % C)))) then 1 else 0))) :: WIN T v B O g ln un nx pl f0 f1 f2) ++ REF T b (yS y 3 (if rg z1 0 3 && rg z2 0 2000 then 0 else 1)) w) := hD
      exact kk _ _ _ ⟨O, g, ln, un, nx, pl, f0, f1, f2, (yS y 3 (if rg z1 0 3 && rg z2 0 2000 then 0 else 1)), w, (vp_updL fo 0 ((if ((justB z1.toNatClampNeg ((O 0) 0 1) ((O 0) 0 2) ((O 0) 0 3) z2.toNatClampNeg ((O 0) 1 (z2.toNatClampNeg % C)))) then 1 else 0))), hP, hD, hS, hG1, lv_sub hl [2, 3, 4, 5, 6] rfl⟩
    | true =>
      have eV : (((if ((justB z1.toNatClampNeg ((O 0) 0 1) ((O 0) 0 2) ((O 0) 0 3) z2.toNatClampNeg ((O 0) 1 (z2.toNatClampNeg % C)))) then 1 else 0)) : Int64) = (1 : Int64) := eV
      refine lv_if_eq (tgt := 927) hx hb dL_law_920 (by decide) (fun c1 => absurd c1 (by decide)) (fun _ => ?_)
      refine lv_lconst (v := 1) hx hb dL_law_923 rfl ?_
      refine lv_goto (tgt := 928) hx hb dL_law_924 (by decide) ?_
      refine W.lcmp hx hb dL_law_928 ?_
      refine lv_if_eq (tgt := 934) hx hb dL_law_929 (by decide) (fun _ => ?_) (fun c1 => absurd ((lg_cmp_eq _ _).mpr eV) c1)
      refine lv_goto (tgt := 3239) hx hb dL_law_934 (by decide) ?_
      refine W.widen (k := cells + 5) (n := slots + 30) (by omega) (by omega) ?_
      have hP : va_P D vwCl ((OUT T ob (vp_updL fo 0 ((if ((justB z1.toNatClampNeg ((O 0) 0 1) ((O 0) 0 2) ((O 0) 0 3) z2.toNatClampNeg ((O 0) 1 (z2.toNatClampNeg % C)))) then 1 else 0))) :: WIN T v B O g ln un nx pl f0 f1 f2) ++ REF T b (yS y 3 (if rg z1 0 3 && rg z2 0 2000 then 0 else 1)) w) H := hP
      have hD : va_D A ((OUT T ob (vp_updL fo 0 ((if ((justB z1.toNatClampNeg ((O 0) 0 1) ((O 0) 0 2) ((O 0) 0 3) z2.toNatClampNeg ((O 0) 1 (z2.toNatClampNeg % C)))) then 1 else 0))) :: WIN T v B O g ln un nx pl f0 f1 f2) ++ REF T b (yS y 3 (if rg z1 0 3 && rg z2 0 2000 then 0 else 1)) w) := hD
      exact kk _ _ _ ⟨O, g, ln, un, nx, pl, f0, f1, f2, (yS y 3 (if rg z1 0 3 && rg z2 0 2000 then 0 else 1)), w, (vp_updL fo 0 ((if ((justB z1.toNatClampNeg ((O 0) 0 1) ((O 0) 0 2) ((O 0) 0 3) z2.toNatClampNeg ((O 0) 1 (z2.toNatClampNeg % C)))) then 1 else 0))), hP, hD, hS, hG1, lv_sub hl [2, 3, 4, 5, 6] rfl⟩
  | some E =>
    have hG1 := st.s
    refine lv_iload hx hb dL_law_910 (lv_at hl 1 rfl) ?_
    refine lv_if_ne (tgt := 934) hx hb dL_law_912 (by decide) (fun _ => ?_) (fun c1 => absurd c1 kC_some)
    refine lv_goto (tgt := 3239) hx hb dL_law_934 (by decide) ?_
    refine W.widen (k := cells + 5) (n := slots + 30) (by omega) (by omega) ?_
    have hP : va_P D vwCl ((OUT T ob fo :: WIN T v B O g ln un nx pl f0 f1 f2) ++ REF T b (yS y 3 (if rg z1 0 3 && rg z2 0 2000 then 0 else 1)) w) H := hP
    have hD : va_D A ((OUT T ob fo :: WIN T v B O g ln un nx pl f0 f1 f2) ++ REF T b (yS y 3 (if rg z1 0 3 && rg z2 0 2000 then 0 else 1)) w) := hD
    exact kk _ _ _ ⟨O, g, ln, un, nx, pl, f0, f1, f2, (yS y 3 (if rg z1 0 3 && rg z2 0 2000 then 0 else 1)), w, fo, hP, hD, hS, hG1, lv_sub hl [2, 3, 4, 5, 6] rfl⟩

set_option maxHeartbeats 4000000 in
set_option maxRecDepth 100000 in
theorem arm_15 (X : LCX p l s m args c D T aK aV A sc L xs) {i : Nat} (hi : i + 6 ≤ L) {H : Heap} {locs : List Loc} {ls : Array Slot} {cells slots : Nat} (hcs : cells + 5 ≤ room_1.cells ∧ slots + 30 ≤ room_1.slots) (h : LST s D T A sc v B b ob i H locs ls) (kk : ∀ (H1 : Heap) (locs1 : List Loc) (ls1 : Array Slot), LST s D T A sc v B b ob i H1 locs1 ls1 → W p l e room_1 s m args below meth c H1 locs1 (cells + 5) (slots + 30) Q (F0 m 3239 ls1 [])) : W p l e room_1 s m args below meth c H locs cells slots Q (F0 m 937 ls []) := by
  obtain ⟨hl9, hx, hb, hml, hown, hts, hX, hsc, hscA, hA, hC, hN, hK, hL⟩ := X
  obtain ⟨O, g, ln, un, nx, pl, f0, f1, f2, y, w, fo, hP, hD, hS, hG, hl⟩ := h
  obtain ⟨N, K, C, nt, hn, h9⟩ := id hG.1
  obtain ⟨z1, hz1⟩ : ∃ z, xs (i + 1) = z := ⟨_, rfl⟩
  refine lv_aload_n hx hb dL_law_937 rfl (lv_at hl 1 rfl) ?_
  refine lv_aload_n hx hb dL_law_938 rfl (lv_at hl 0 rfl) ?_
  refine lv_iload hx hb dL_law_939 (lv_at hl 4 rfl) ?_
  refine lv_iconst (v := 1) hx hb dL_law_941 (by decide) ?_
  refine lv_iadd hx hb dL_law_942 ?_
  refine endI (r := nI (i + 1)) (nI_add i 1) ?_
  refine sldN hx hb hX hsc hscA hS hz1 (by omega) hL dL_law_943 ?_
  refine lv_aload_n hx hb dL_law_944 rfl (lv_at hl 3 rfl) ?_
  refine wlSi (As := [.ref (v 0), .int z1, .ref ob]) (rest := []) ⟨hx, hb, hml, hown, hts⟩ (c_L_nextJustified l hl9 D T aK aV v B O g ln un nx pl f0 f1 f2 ob fo z1 N K C nt hn.oi _) (vx_cwSW 3 hts gl_L_nextJustified rfl rfl rfl (by decide +kernel) ⟨Nat.le_of_ble_eq_true rfl, Nat.le_of_ble_eq_true rfl⟩) (Foc.lft _ _ _) hC hN hK hP hD hS hA rfl hl.1 rfl (Nat.le_of_ble_eq_true rfl) ⟨by omega, by omega⟩ dL_law_945 (fun H locs hP hD hS => ?_)
  refine lv_istore (lv' := [(5, .int (kC "java/lang/IllegalArgumentException" (orE (chkB (rg z1 0 3) "java/lang/IllegalArgumentException") (chkB ((nextC (O 0) C nt z1.toNatClampNeg).isSome) "java/util/NoSuchElementException")))), (0, .ref sc), (1, .ref (v 0)), (2, .ref (b 0)), (3, .ref ob), (4, .int (nI i))]) hx hb dL_law_948 hl (by decide) rfl (fun ls hl => ?_)
  refine lv_aload_n hx hb dL_law_950 rfl (lv_at hl 3 rfl) ?_
  refine lv_aload_n hx hb dL_law_951 rfl (lv_at hl 1 rfl) ?_
  refine lv_iload hx hb dL_law_952 (lv_at hl 5 rfl) ?_
  refine lv_iconst (v := 1) hx hb dL_law_954 (by decide) ?_
  refine lv_iadd hx hb dL_law_955 ?_
  refine endI (r := nI (i + 1)) (nI_add i 1) ?_
  refine sldN hx hb hX hsc hscA hS hz1 (by omega) hL dL_law_956 ?_
  refine wrVi (As := [.int z1]) (rest := []) ⟨hx, hb, hml, hown, hts⟩ (c_X10_nextJustified l D T b y w z1 N K C nt hn.ri _) (cwV 1 hts gl_X10_nextJustified rfl rfl rfl (by decide +kernel) ⟨Nat.le_of_ble_eq_true rfl, Nat.le_of_ble_eq_true rfl⟩) (Foc.rgt _ _ _) hK hP hD hS hA 0 rfl rfl rfl hl.1 rfl (Nat.le_of_ble_eq_true rfl) ⟨by omega, by omega⟩ dL_law_957 (fun H locs hP hD hS => ?_)
  refine lv_istore (lv' := [(6, .int (if rg z1 0 3 then (nextR (y 1) C nt z1.toNatClampNeg).elim 0 nI else 0)), (5, .int (kC "java/lang/IllegalArgumentException" (orE (chkB (rg z1 0 3) "java/lang/IllegalArgumentException") (chkB ((nextC (O 0) C nt z1.toNatClampNeg).isSome) "java/util/NoSuchElementException")))), (0, .ref sc), (1, .ref (v 0)), (2, .ref (b 0)), (3, .ref ob), (4, .int (nI i))]) hx hb dL_law_960 hl (by decide) rfl (fun ls hl => ?_)
  refine lv_aload_n hx hb dL_law_962 rfl (lv_at hl 4 rfl) ?_
  refine rdV (As := []) (rest := []) ⟨hx, hb, hml, hown, hts⟩ (c_X10_thrown l D T b (yS y 3 (if rg z1 0 3 then (if (nextR (y 1) C nt z1.toNatClampNeg).isSome then 0 else 2) else 1)) w) (cwV 0 hts gl_X10_thrown rfl rfl rfl (by decide +kernel) ⟨Nat.le_of_ble_eq_true rfl, Nat.le_of_ble_eq_true rfl⟩) hK ((Foc.rgt _ _ []).subP hP) 0 rfl rfl rfl hl.1 rfl (Nat.le_of_ble_eq_true rfl) ⟨by omega, by omega⟩ dL_law_963 ?_
  refine lv_iload hx hb dL_law_966 (lv_at hl 1 rfl) ?_
  have st := st_nextJustified hG hn z1
  have hk := st.code
  refine lv_icmp_eq (tgt := 973) hx hb dL_law_968 (by decide) (fun _ => ?_) (fun c1 => absurd hk c1)
  generalize hcd : (orE (chkB (rg z1 0 3) "java/lang/IllegalArgumentException") (chkB ((nextC (O 0) C nt z1.toNatClampNeg).isSome) "java/util/NoSuchElementException")) = cd at st hP hD hl
  cases cd with
  | none =>
    obtain ⟨eV, hG1⟩ := st.n
    refine lv_iload hx hb dL_law_973 (lv_at hl 1 rfl) ?_
    refine lv_if_ne (tgt := 990) hx hb dL_law_975 (by decide) (fun c1 => absurd rfl c1) (fun _ => ?_)
    have hP : va_P D vwCl ((OUT T ob (vp_updL fo 0 (((nextC (O 0) C nt z1.toNatClampNeg).elim 0 nI).toInt64)) :: WIN T v B O g ln un nx pl f0 f1 f2) ++ REF T b (yS y 3 (if rg z1 0 3 then (if (nextR (y 1) C nt z1.toNatClampNeg).isSome then 0 else 2) else 1)) w) H := hP
    have hD : va_D A ((OUT T ob (vp_updL fo 0 (((nextC (O 0) C nt z1.toNatClampNeg).elim 0 nI).toInt64)) :: WIN T v B O g ln un nx pl f0 f1 f2) ++ REF T b (yS y 3 (if rg z1 0 3 then (if (nextR (y 1) C nt z1.toNatClampNeg).isSome then 0 else 2) else 1)) w) := hD
    refine lv_aload_n hx hb dL_law_978 rfl (lv_at hl 5 rfl) ?_
    refine lv_iconst (v := 0) hx hb dL_law_979 (by decide) ?_
    refine laldO hx hb hK hP dL_law_980 ?_
    refine lv_iload hx hb dL_law_981 (lv_at hl 0 rfl) ?_
    refine lv_i2l (v := (if rg z1 0 3 then (nextR (y 1) C nt z1.toNatClampNeg).elim 0 nI else 0).toInt64) hx hb dL_law_983 rfl ?_
    refine W.lcmp hx hb dL_law_984 ?_
    refine lv_if_eq (tgt := 990) hx hb dL_law_985 (by decide) (fun _ => ?_) (fun c1 => absurd ((lg_cmp_eq _ _).mpr eV) c1)
    refine lv_goto (tgt := 3239) hx hb dL_law_990 (by decide) ?_
    refine W.widen (k := cells + 5) (n := slots + 30) (by omega) (by omega) ?_
    have hP : va_P D vwCl ((OUT T ob (vp_updL fo 0 (((nextC (O 0) C nt z1.toNatClampNeg).elim 0 nI).toInt64)) :: WIN T v B O g ln un nx pl f0 f1 f2) ++ REF T b (yS y 3 (if rg z1 0 3 then (if (nextR (y 1) C nt z1.toNatClampNeg).isSome then 0 else 2) else 1)) w) H := hP
    have hD : va_D A ((OUT T ob (vp_updL fo 0 (((nextC (O 0) C nt z1.toNatClampNeg).elim 0 nI).toInt64)) :: WIN T v B O g ln un nx pl f0 f1 f2) ++ REF T b (yS y 3 (if rg z1 0 3 then (if (nextR (y 1) C nt z1.toNatClampNeg).isSome then 0 else 2) else 1)) w) := hD
    exact kk _ _ _ ⟨O, g, ln, un, nx, pl, f0, f1, f2, (yS y 3 (if rg z1 0 3 then (if (nextR (y 1) C nt z1.toNatClampNeg).isSome then 0 else 2) else 1)), w, (vp_updL fo 0 (((nextC (O 0) C nt z1.toNatClampNeg).elim 0 nI).toInt64)), hP, hD, hS, hG1, lv_sub hl [2, 3, 4, 5, 6] rfl⟩
  | some E =>
    have hG1 := st.s
    refine lv_iload hx hb dL_law_973 (lv_at hl 1 rfl) ?_
    refine lv_if_ne (tgt := 990) hx hb dL_law_975 (by decide) (fun _ => ?_) (fun c1 => absurd c1 kC_some)
    refine lv_goto (tgt := 3239) hx hb dL_law_990 (by decide) ?_
    refine W.widen (k := cells + 5) (n := slots + 30) (by omega) (by omega) ?_
    have hP : va_P D vwCl ((OUT T ob fo :: WIN T v B O g ln un nx pl f0 f1 f2) ++ REF T b (yS y 3 (if rg z1 0 3 then (if (nextR (y 1) C nt z1.toNatClampNeg).isSome then 0 else 2) else 1)) w) H := hP
    have hD : va_D A ((OUT T ob fo :: WIN T v B O g ln un nx pl f0 f1 f2) ++ REF T b (yS y 3 (if rg z1 0 3 then (if (nextR (y 1) C nt z1.toNatClampNeg).isSome then 0 else 2) else 1)) w) := hD
    exact kk _ _ _ ⟨O, g, ln, un, nx, pl, f0, f1, f2, (yS y 3 (if rg z1 0 3 then (if (nextR (y 1) C nt z1.toNatClampNeg).isSome then 0 else 2) else 1)), w, fo, hP, hD, hS, hG1, lv_sub hl [2, 3, 4, 5, 6] rfl⟩

end ARM
