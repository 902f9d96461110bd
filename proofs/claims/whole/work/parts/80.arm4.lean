section ARM
variable {p : Program} {l : Launch} {e : Env} {s : State} {m : MethodId} {args : Array Value} {below : List Frame} {meth : Method} {c : Code} {Q : State → Prop} {D : va_G} {T : Nat → ClassId} {aK aV : Nat → Nat} {A : Nat → Prop} {sc L : Nat} {xs : Nat → Int32} {v : Nat → Nat} {B : Nat → Nat → Nat} {b : Nat → Nat} {ob : Nat}
set_option maxHeartbeats 4000000 in
set_option maxRecDepth 100000 in
theorem arm_48 (X : LCX p l s m args c D T aK aV A sc L xs) {i : Nat} (hi : i + 6 ≤ L) {H : Heap} {locs : List Loc} {ls : Array Slot} {cells slots : Nat} (hcs : cells + 5 ≤ room_1.cells ∧ slots + 30 ≤ room_1.slots) (h : LST s D T A sc v B b ob i H locs ls) (kk : ∀ (H1 : Heap) (locs1 : List Loc) (ls1 : Array Slot), LST s D T A sc v B b ob i H1 locs1 ls1 → W p l e room_1 s m args below meth c H1 locs1 (cells + 5) (slots + 30) Q (F0 m 3239 ls1 [])) : W p l e room_1 s m args below meth c H locs cells slots Q (F0 m 2288 ls []) := by
  obtain ⟨hl9, hx, hb, hml, hown, hts, hX, hsc, hscA, hA, hC, hN, hK, hL⟩ := X
  obtain ⟨O, g, ln, un, nx, pl, f0, f1, f2, y, w, fo, hP, hD, hS, hG, hl⟩ := h
  obtain ⟨N, K, C, nt, hn, h9⟩ := id hG.1
  obtain ⟨z1, hz1⟩ : ∃ z, xs (i + 1) = z := ⟨_, rfl⟩
  refine lv_aload_n hx hb dL_law_2288 rfl (lv_at hl 1 rfl) ?_
  refine lv_aload_n hx hb dL_law_2289 rfl (lv_at hl 0 rfl) ?_
  refine lv_iload hx hb dL_law_2290 (lv_at hl 4 rfl) ?_
  refine lv_iconst (v := 1) hx hb dL_law_2292 (by decide) ?_
  refine lv_iadd hx hb dL_law_2293 ?_
  refine endI (r := nI (i + 1)) (nI_add i 1) ?_
  refine sldN hx hb hX hsc hscA hS hz1 (by omega) hL dL_law_2294 ?_
  refine lv_aload_n hx hb dL_law_2295 rfl (lv_at hl 3 rfl) ?_
  refine wlSi (As := [.ref (v 0), .int z1, .ref ob]) (rest := []) ⟨hx, hb, hml, hown, hts⟩ (c_L_nightsToClose l hl9 D T aK aV v B O g ln un nx pl f0 f1 f2 ob fo z1 N K C nt hn.oi (by omega) _) (vx_cwSW 3 hts gl_L_nightsToClose rfl rfl rfl (by decide +kernel) ⟨Nat.le_of_ble_eq_true rfl, Nat.le_of_ble_eq_true rfl⟩) (Foc.lft _ _ _) hC hN hK hP hD hS hA rfl hl.1 rfl (Nat.le_of_ble_eq_true rfl) ⟨by omega, by omega⟩ dL_law_2296 (fun H locs hP hD hS => ?_)
  refine lv_istore (lv' := [(5, .int (kC "java/lang/IndexOutOfBoundsException" (orE (chkB (inN z1 N) "java/lang/IndexOutOfBoundsException") (chkB (decide ((O 0) 8 z1.toNatClampNeg = 0)) "java/lang/IllegalStateException")))), (0, .ref sc), (1, .ref (v 0)), (2, .ref (b 0)), (3, .ref ob), (4, .int (nI i))]) hx hb dL_law_2299 hl (by decide) rfl (fun ls hl => ?_)
  refine lv_aload_n hx hb dL_law_2301 rfl (lv_at hl 3 rfl) ?_
  refine lv_aload_n hx hb dL_law_2302 rfl (lv_at hl 1 rfl) ?_
  refine lv_iload hx hb dL_law_2303 (lv_at hl 5 rfl) ?_
  refine lv_iconst (v := 1) hx hb dL_law_2305 (by decide) ?_
  refine lv_iadd hx hb dL_law_2306 ?_
  refine endI (r := nI (i + 1)) (nI_add i 1) ?_
  refine sldN hx hb hX hsc hscA hS hz1 (by omega) hL dL_law_2307 ?_
  refine wrVi (As := [.int z1]) (rest := []) ⟨hx, hb, hml, hown, hts⟩ (c_X10_nightsToClose l D T b y w z1 N K C nt hn.ri hn.vi.fl (by omega) _) (cwV 1 hts gl_X10_nightsToClose rfl rfl rfl (by decide +kernel) ⟨Nat.le_of_ble_eq_true rfl, Nat.le_of_ble_eq_true rfl⟩) (Foc.rgt _ _ _) hK hP hD hS hA 0 rfl rfl rfl hl.1 rfl (Nat.le_of_ble_eq_true rfl) ⟨by omega, by omega⟩ dL_law_2308 (fun H locs hP hD hS => ?_)
  refine lv_istore (lv' := [(6, .int (if inN z1 N then (if y 1 (34 + 7 * z1.toNatClampNeg + 4) = 0 then nI (rUntil N K C z1.toNatClampNeg 57 nt (lay0 y)).1 else 0) else 0)), (5, .int (kC "java/lang/IndexOutOfBoundsException" (orE (chkB (inN z1 N) "java/lang/IndexOutOfBoundsException") (chkB (decide ((O 0) 8 z1.toNatClampNeg = 0)) "java/lang/IllegalStateException")))), (0, .ref sc), (1, .ref (v 0)), (2, .ref (b 0)), (3, .ref ob), (4, .int (nI i))]) hx hb dL_law_2311 hl (by decide) rfl (fun ls hl => ?_)
  refine lv_aload_n hx hb dL_law_2313 rfl (lv_at hl 4 rfl) ?_
  refine rdV (As := []) (rest := []) ⟨hx, hb, hml, hown, hts⟩ (c_X10_thrown l D T b (if inN z1 N then (if y 1 (34 + 7 * z1.toNatClampNeg + 4) = 0 then yS (va_up y 3 (rUntil N K C z1.toNatClampNeg 57 nt (lay0 y)).2) 3 0 else yS y 3 2) else yS y 3 1) w) (cwV 0 hts gl_X10_thrown rfl rfl rfl (by decide +kernel) ⟨Nat.le_of_ble_eq_true rfl, Nat.le_of_ble_eq_true rfl⟩) hK ((Foc.rgt _ _ []).subP hP) 0 rfl rfl rfl hl.1 rfl (Nat.le_of_ble_eq_true rfl) ⟨by omega, by omega⟩ dL_law_2314 ?_
  refine lv_iload hx hb dL_law_2317 (lv_at hl 1 rfl) ?_
  have st := st_nightsToClose hG hn h9 z1
  have hk := st.code
  refine lv_icmp_eq (tgt := 2324) hx hb dL_law_2319 (by decide) (fun _ => ?_) (fun c1 => absurd hk c1)
  generalize hcd : (orE (chkB (inN z1 N) "java/lang/IndexOutOfBoundsException") (chkB (decide ((O 0) 8 z1.toNatClampNeg = 0)) "java/lang/IllegalStateException")) = cd at st hP hD hl
  cases cd with
  | none =>
    obtain ⟨eV, hG1⟩ := st.n
    refine lv_iload hx hb dL_law_2324 (lv_at hl 1 rfl) ?_
    refine lv_if_ne (tgt := 2341) hx hb dL_law_2326 (by decide) (fun c1 => absurd rfl c1) (fun _ => ?_)
    have hP : va_P D vwCl ((OUT T ob (vp_updL fo 0 ((nI (cUntil N K C z1.toNatClampNeg 56 nt (O 0)).1).toInt64)) :: WIN T v B (va_up O 1 ((cUntil N K C z1.toNatClampNeg 56 nt (O 0)).2)) g ln un nx pl f0 f1 f2) ++ REF T b (if inN z1 N then (if y 1 (34 + 7 * z1.toNatClampNeg + 4) = 0 then yS (va_up y 3 (rUntil N K C z1.toNatClampNeg 57 nt (lay0 y)).2) 3 0 else yS y 3 2) else yS y 3 1) w) H := hP
    have hD : va_D A ((OUT T ob (vp_updL fo 0 ((nI (cUntil N K C z1.toNatClampNeg 56 nt (O 0)).1).toInt64)) :: WIN T v B (va_up O 1 ((cUntil N K C z1.toNatClampNeg 56 nt (O 0)).2)) g ln un nx pl f0 f1 f2) ++ REF T b (if inN z1 N then (if y 1 (34 + 7 * z1.toNatClampNeg + 4) = 0 then yS (va_up y 3 (rUntil N K C z1.toNatClampNeg 57 nt (lay0 y)).2) 3 0 else yS y 3 2) else yS y 3 1) w) := hD
    refine lv_aload_n hx hb dL_law_2329 rfl (lv_at hl 5 rfl) ?_
    refine lv_iconst (v := 0) hx hb dL_law_2330 (by decide) ?_
    refine laldO hx hb hK hP dL_law_2331 ?_
    refine lv_iload hx hb dL_law_2332 (lv_at hl 0 rfl) ?_
    refine lv_i2l (v := (if inN z1 N then (if y 1 (34 + 7 * z1.toNatClampNeg + 4) = 0 then nI (rUntil N K C z1.toNatClampNeg 57 nt (lay0 y)).1 else 0) else 0).toInt64) hx hb dL_law_2334 rfl ?_
    refine W.lcmp hx hb dL_law_2335 ?_
    refine lv_if_eq (tgt := 2341) hx hb dL_law_2336 (by decide) (fun _ => ?_) (fun c1 => absurd ((lg_cmp_eq _ _).mpr eV) c1)
    refine lv_goto (tgt := 3239) hx hb dL_law_2341 (by decide) ?_
    refine W.widen (k := cells + 5) (n := slots + 30) (by omega) (by omega) ?_
    have hP : va_P D vwCl ((OUT T ob (vp_updL fo 0 ((nI (cUntil N K C z1.toNatClampNeg 56 nt (O 0)).1).toInt64)) :: WIN T v B (va_up O 1 ((cUntil N K C z1.toNatClampNeg 56 nt (O 0)).2)) g ln un nx pl f0 f1 f2) ++ REF T b (if inN z1 N then (if y 1 (34 + 7 * z1.toNatClampNeg + 4) = 0 then yS (va_up y 3 (rUntil N K C z1.toNatClampNeg 57 nt (lay0 y)).2) 3 0 else yS y 3 2) else yS y 3 1) w) H := hP
    have hD : va_D A ((OUT T ob (vp_updL fo 0 ((nI (cUntil N K C z1.toNatClampNeg 56 nt (O 0)).1).toInt64)) :: WIN T v B (va_up O 1 ((cUntil N K C z1.toNatClampNeg 56 nt (O 0)).2)) g ln un nx pl f0 f1 f2) ++ REF T b (if inN z1 N then (if y 1 (34 + 7 * z1.toNatClampNeg + 4) = 0 then yS (va_up y 3 (rUntil N K C z1.toNatClampNeg 57 nt (lay0 y)).2) 3 0 else yS y 3 2) else yS y 3 1) w) := hD
    exact kk _ _ _ ⟨(va_up O 1 ((cUntil N K C z1.toNatClampNeg 56 nt (O 0)).2)), g, ln, un, nx, pl, f0, f1, f2, (if inN z1 N then (if y 1 (34 + 7 * z1.toNatClampNeg + 4) = 0 then yS (va_up y 3 (rUntil N K C z1.toNatClampNeg 57 nt (lay0 y)).2) 3 0 else yS y 3 2) else yS y 3 1), w, (vp_updL fo 0 ((nI (cUntil N K C z1.toNatClampNeg 56 nt (O 0)).1).toInt64)), hP, hD, hS, hG1, lv_sub hl [2, 3, 4, 5, 6] rfl⟩
  | some E =>
    have hG1 := st.s
    refine lv_iload hx hb dL_law_2324 (lv_at hl 1 rfl) ?_
    refine lv_if_ne (tgt := 2341) hx hb dL_law_2326 (by decide) (fun _ => ?_) (fun c1 => absurd c1 kC_some)
    refine lv_goto (tgt := 3239) hx hb dL_law_2341 (by decide) ?_
    refine W.widen (k := cells + 5) (n := slots + 30) (by omega) (by omega) ?_
    have hP : va_P D vwCl ((OUT T ob fo :: WIN T v B O g ln un nx pl f0 f1 f2) ++ REF T b (if inN z1 N then (if y 1 (34 + 7 * z1.toNatClampNeg + 4) = 0 then yS (va_up y 3 (rUntil N K C z1.toNatClampNeg 57 nt (lay0 y)).2) 3 0 else yS y 3 2) else yS y 3 1) w) H := hP
    have hD : va_D A ((OUT T ob fo :: WIN T v B O g ln un nx pl f0 f1 f2) ++ REF T b (if inN z1 N then (if y 1 (34 + 7 * z1.toNatClampNeg + 4) = 0 then yS (va_up y 3 (rUntil N K C z1.toNatClampNeg 57 nt (lay0 y)).2) 3 0 else yS y 3 2) else yS y 3 1) w) := hD
    exact kk _ _ _ ⟨O, g, ln, un, nx, pl, f0, f1, f2, (if inN z1 N then (if y 1 (34 + 7 * z1.toNatClampNeg + 4) = 0 then yS (va_up y 3 (rUntil N K C z1.toNatClampNeg 57 nt (lay0 y)).2) 3 0 else yS y 3 2) else yS y 3 1), w, fo, hP, hD, hS, hG1, lv_sub hl [2, 3, 4, 5, 6] rfl⟩

set_option maxHeartbeats 4000000 in
set_option maxRecDepth 100000 in
theorem arm_49 (X : LCX p l s m args c D T aK aV A sc L xs) {i : Nat} (hi : i + 6 ≤ L) {H : Heap} {locs : List Loc} {ls : Array Slot} {cells slots : Nat} (hcs : cells + 5 ≤ room_1.cells ∧ slots + 30 ≤ room_1.slots) (h : LST s D T A sc v B b ob i H locs ls) (kk : ∀ (H1 : Heap) (locs1 : List Loc) (ls1 : Array Slot), LST s D T A sc v B b ob i H1 locs1 ls1 → W p l e room_1 s m args below meth c H1 locs1 (cells + 5) (slots + 30) Q (F0 m 3239 ls1 [])) : W p l e room_1 s m args below meth c H locs cells slots Q (F0 m 2344 ls []) := by
  obtain ⟨hl9, hx, hb, hml, hown, hts, hX, hsc, hscA, hA, hC, hN, hK, hL⟩ := X
  obtain ⟨O, g, ln, un, nx, pl, f0, f1, f2, y, w, fo, hP, hD, hS, hG, hl⟩ := h
  obtain ⟨N, K, C, nt, hn, h9⟩ := id hG.1
  obtain ⟨z1, hz1⟩ : ∃ z, xs (i + 1) = z := ⟨_, rfl⟩
  refine lv_aload_n hx hb dL_law_2344 rfl (lv_at hl 1 rfl) ?_
  refine lv_aload_n hx hb dL_law_2345 rfl (lv_at hl 0 rfl) ?_
  refine lv_iload hx hb dL_law_2346 (lv_at hl 4 rfl) ?_
  refine lv_iconst (v := 1) hx hb dL_law_2348 (by decide) ?_
  refine lv_iadd hx hb dL_law_2349 ?_
  refine endI (r := nI (i + 1)) (nI_add i 1) ?_
  refine sldN hx hb hX hsc hscA hS hz1 (by omega) hL dL_law_2350 ?_
  refine lv_aload_n hx hb dL_law_2351 rfl (lv_at hl 3 rfl) ?_
  refine wlSi (As := [.ref (v 0), .int z1, .ref ob]) (rest := []) ⟨hx, hb, hml, hown, hts⟩ (c_L_willBeAnswered l hl9 D T aK aV v B O g ln un nx pl f0 f1 f2 ob fo z1 N K C nt hn.oi (by omega) _) (vx_cwSW 3 hts gl_L_willBeAnswered rfl rfl rfl (by decide +kernel) ⟨Nat.le_of_ble_eq_true rfl, Nat.le_of_ble_eq_true rfl⟩) (Foc.lft _ _ _) hC hN hK hP hD hS hA rfl hl.1 rfl (Nat.le_of_ble_eq_true rfl) ⟨by omega, by omega⟩ dL_law_2352 (fun H locs hP hD hS => ?_)
  refine lv_istore (lv' := [(5, .int (kC "java/lang/IndexOutOfBoundsException" (orE (chkB (inN z1 N) "java/lang/IndexOutOfBoundsException") (chkB (decide ((O 0) 8 z1.toNatClampNeg = 0)) "java/lang/IllegalStateException")))), (0, .ref sc), (1, .ref (v 0)), (2, .ref (b 0)), (3, .ref ob), (4, .int (nI i))]) hx hb dL_law_2355 hl (by decide) rfl (fun ls hl => ?_)
  refine lv_aload_n hx hb dL_law_2357 rfl (lv_at hl 3 rfl) ?_
  refine lv_aload_n hx hb dL_law_2358 rfl (lv_at hl 1 rfl) ?_
  refine lv_iload hx hb dL_law_2359 (lv_at hl 5 rfl) ?_
  refine lv_iconst (v := 1) hx hb dL_law_2361 (by decide) ?_
  refine lv_iadd hx hb dL_law_2362 ?_
  refine endI (r := nI (i + 1)) (nI_add i 1) ?_
  refine sldN hx hb hX hsc hscA hS hz1 (by omega) hL dL_law_2363 ?_
  refine wrVi (As := [.int z1]) (rest := []) ⟨hx, hb, hml, hown, hts⟩ (c_X10_willBeAnswered l D T b y w z1 N K C nt hn.ri hn.vi.fl (by omega) _) (cwV 1 hts gl_X10_willBeAnswered rfl rfl rfl (by decide +kernel) ⟨Nat.le_of_ble_eq_true rfl, Nat.le_of_ble_eq_true rfl⟩) (Foc.rgt _ _ _) hK hP hD hS hA 0 rfl rfl rfl hl.1 rfl (Nat.le_of_ble_eq_true rfl) ⟨by omega, by omega⟩ dL_law_2364 (fun H locs hP hD hS => ?_)
  refine lv_istore (lv' := [(6, .int (bI (inN z1 N && decide (y 1 (34 + 7 * z1.toNatClampNeg + 4) = 0) && decide ((rUntil N K C z1.toNatClampNeg 57 nt (lay0 y)).2 (34 + 7 * z1.toNatClampNeg + 4) = 1)))), (5, .int (kC "java/lang/IndexOutOfBoundsException" (orE (chkB (inN z1 N) "java/lang/IndexOutOfBoundsException") (chkB (decide ((O 0) 8 z1.toNatClampNeg = 0)) "java/lang/IllegalStateException")))), (0, .ref sc), (1, .ref (v 0)), (2, .ref (b 0)), (3, .ref ob), (4, .int (nI i))]) hx hb dL_law_2367 hl (by decide) rfl (fun ls hl => ?_)
  refine lv_aload_n hx hb dL_law_2369 rfl (lv_at hl 4 rfl) ?_
  refine rdV (As := []) (rest := []) ⟨hx, hb, hml, hown, hts⟩ (c_X10_thrown l D T b (if inN z1 N then (if y 1 (34 + 7 * z1.toNatClampNeg + 4) = 0 then yS (va_up y 3 (rUntil N K C z1.toNatClampNeg 57 nt (lay0 y)).2) 3 0 else yS y 3 2) else yS y 3 1) w) (cwV 0 hts gl_X10_thrown rfl rfl rfl (by decide +kernel) ⟨Nat.le_of_ble_eq_true rfl, Nat.le_of_ble_eq_true rfl⟩) hK ((Foc.rgt _ _ []).subP hP) 0 rfl rfl rfl hl.1 rfl (Nat.le_of_ble_eq_true rfl) ⟨by omega, by omega⟩ dL_law_2370 ?_
  refine lv_iload hx hb dL_law_2373 (lv_at hl 1 rfl) ?_
  have st := st_willBeAnswered hG hn h9 z1
  have hk := st.code
  refine lv_icmp_eq (tgt := 2380) hx hb dL_law_2375 (by decide) (fun _ => ?_) (fun c1 => absurd hk c1)
  generalize hcd : (orE (chkB (inN z1 N) "java/lang/IndexOutOfBoundsException") (chkB (decide ((O 0) 8 z1.toNatClampNeg = 0)) "java/lang/IllegalStateException")) = cd at st hP hD hl
  cases cd with
  | none =>
    obtain ⟨eV, hG1⟩ := st.n
    refine lv_iload hx hb dL_law_2380 (lv_at hl 1 rfl) ?_
    refine lv_if_ne (tgt := 2404) hx hb dL_law_2382 (by decide) (fun c1 => absurd rfl c1) (fun _ => ?_)
    have hP : va_P D vwCl ((OUT T ob (vp_updL fo 0 ((if ((decide ((cUntil N K C z1.toNatClampNeg 56 nt (O 0)).2 8 z1.toNatClampNeg = 1))) then 1 else 0))) :: WIN T v B (va_up O 1 ((cUntil N K C z1.toNatClampNeg 56 nt (O 0)).2)) g ln un nx pl f0 f1 f2) ++ REF T b (if inN z1 N then (if y 1 (34 + 7 * z1.toNatClampNeg + 4) = 0 then yS (va_up y 3 (rUntil N K C z1.toNatClampNeg 57 nt (lay0 y)).2) 3 0 else yS y 3 2) else yS y 3 1) w) H := hP
    have hD : va_D A ((OUT T ob (vp_updL fo 0 ((if ((decide ((cUntil N K C z1.toNatClampNeg 56 nt (O 0)).2 8 z1.toNatClampNeg = 1))) then 1 else 0))) :: WIN T v B (va_up O 1 ((cUntil N K C z1.toNatClampNeg 56 nt (O 0)).2)) g ln un nx pl f0 f1 f2) ++ REF T b (if inN z1 N then (if y 1 (34 + 7 * z1.toNatClampNeg + 4) = 0 then yS (va_up y 3 (rUntil N K C z1.toNatClampNeg 57 nt (lay0 y)).2) 3 0 else yS y 3 2) else yS y 3 1) w) := hD
    refine lv_aload_n hx hb dL_law_2385 rfl (lv_at hl 5 rfl) ?_
    refine lv_iconst (v := 0) hx hb dL_law_2386 (by decide) ?_
    refine laldO hx hb hK hP dL_law_2387 ?_
    refine lv_iload hx hb dL_law_2388 (lv_at hl 0 rfl) ?_
    have hl : lv_has ls 9 [(6, .int (bI (inN z1 N && decide (y 1 (34 + 7 * z1.toNatClampNeg + 4) = 0) && decide ((rUntil N K C z1.toNatClampNeg 57 nt (lay0 y)).2 (34 + 7 * z1.toNatClampNeg + 4) = 1)))), (5, .int (kC "java/lang/IndexOutOfBoundsException" none)), (0, .ref sc), (1, .ref (v 0)), (2, .ref (b 0)), (3, .ref ob), (4, .int (nI i))] := hl
    generalize (inN z1 N && decide (y 1 (34 + 7 * z1.toNatClampNeg + 4) = 0) && decide ((rUntil N K C z1.toNatClampNeg 57 nt (lay0 y)).2 (34 + 7 * z1.toNatClampNeg + 4) = 1)) = cb at eV hl ⊢
    cases cb with
    | false =>
      have eV : (((if ((decide ((cUntil N K C z1.toNatClampNeg 56 nt (O 0)).2 8 z1.toNatClampNeg = 1))) then 1 else 0)) : Int64) = (0 : Int64) := eV
      refine lv_if_eq (tgt := 2397) hx hb dL_law_2390 (by decide) (fun _ => ?_) (fun c1 => absurd rfl c1)
      refine lv_lconst (v := 0) hx hb dL_law_2397 rfl ?_
      refine W.lcmp hx hb dL_law_2398 ?_
      refine lv_if_eq (tgt := 2404) hx hb dL_law_2399 (by decide) (fun _ => ?_) (fun c1 => absurd ((lg_cmp_eq _ _).mpr eV) c1)
      refine lv_goto (tgt := 3239) hx hb dL_law_2404 (by decide) ?_
      refine W.widen (k := cells + 5) (n := slots + 30) (by omega) (by omega) ?_
      have hP : va_P D vwCl ((OUT T ob (vp_updL fo 0 ((if ((decide ((cUntil N K C z1.toNatClampNeg 56 nt (O 0)).2 8 z1.toNatClampNeg = 1))) then 1 else 0))) :: WIN T v B (va_up O 1 ((cUntil N K C z1.toNatClampNeg 56 nt (O 0)).2)) g ln un nx pl f0 f1 f2) ++ REF T b (if inN z1 N then (if y 1 (34 + 7 * z1.toNatClampNeg + 4) = 0 then yS (va_up y 3 (rUntil N K C z1.toNatClampNeg 57 nt (lay0 y)).2) 3 0 else yS y 3 2) else yS y 3 1) w) H := hP
      have hD : va_D A ((OUT T ob (vp_updL fo 0 ((if ((decide ((cUntil N K C z1.toNatClampNeg 56 nt (O 0)).2 8 z1.toNatClampNeg = 1))) then 1 else 0))) :: WIN T v B (va_up O 1 ((cUntil N K C z1.toNatClampNeg 56 nt (O 0)).2)) g ln un nx pl f0 f1 f2) ++ REF T b (if inN z1 N then (if y 1 (34 + 7 * z1.toNatClampNeg + 4) = 0 then yS (va_up y 3 (rUntil N K C z1.toNatClampNeg 57 nt (lay0 y)).2) 3 0 else yS y 3 2) else yS y 3 1) w) := hD
      exact kk _ _ _ ⟨(va_up O 1 ((cUntil N K C z1.toNatClampNeg 56 nt (O 0)).2)), g, ln, un, nx, pl, f0, f1, f2, (if inN z1 N then (if y 1 (34 + 7 * z1.toNatClampNeg + 4) = 0 then yS (va_up y 3 (rUntil N K C z1.toNatClampNeg 57 nt (lay0 y)).2) 3 0 else yS y 3 2) else yS y 3 1), w, (vp_updL fo 0 ((if ((decide ((cUntil N K C z1.toNatClampNeg 56 nt (O 0)).2 8 z1.toNatClampNeg = 1))) then 1 else 0))), hP, hD, hS, hG1, lv_sub hl [2, 3, 4, 5, 6] rfl⟩
    | true =>
      have eV : (((if ((decide ((cUntil N K C z1.toNatClampNeg 56 nt (O 0)).2 8 z1.toNatClampNeg = 1))) then 1 else 0)) : Int64) = (1 : Int64) := eV
      refine lv_if_eq (tgt := 2397) hx hb dL_law_2390 (by decide) (fun c1 => absurd c1 (by decide)) (fun _ => ?_)
      refine lv_lconst (v := 1) hx hb dL_law_2393 rfl ?_
      refine lv_goto (tgt := 2398) hx hb dL_law_2394 (by decide) ?_
      refine W.lcmp hx hb dL_law_2398 ?_
      refine lv_if_eq (tgt := 2404) hx hb dL_law_2399 (by decide) (fun _ => ?_) (fun c1 => absurd ((lg_cmp_eq _ _).mpr eV) c1)
      refine lv_goto (tgt := 3239) hx hb dL_law_2404 (by decide) ?_
      refine W.widen (k := cells + 5) (n := slots + 30) (by omega) (by omega) ?_
      have hP : va_P D vwCl ((OUT T ob (vp_updL fo 0 ((if ((decide ((cUntil N K C z1.toNatClampNeg 56 nt (O 0)).2 8 z1.toNatClampNeg = 1))) then 1 else 0))) :: WIN T v B (va_up O 1 ((cUntil N K C z1.toNatClampNeg 56 nt (O 0)).2)) g ln un nx pl f0 f1 f2) ++ REF T b (if inN z1 N then (if y 1 (34 + 7 * z1.toNatClampNeg + 4) = 0 then yS (va_up y 3 (rUntil N K C z1.toNatClampNeg 57 nt (lay0 y)).2) 3 0 else yS y 3 2) else yS y 3 1) w) H := hP
      have hD : va_D A ((OUT T ob (vp_updL fo 0 ((if ((decide ((cUntil N K C z1.toNatClampNeg 56 nt (O 0)).2 8 z1.toNatClampNeg = 1))) then 1 else 0))) :: WIN T v B (va_up O 1 ((cUntil N K C z1.toNatClampNeg 56 nt (O 0)).2)) g ln un nx pl f0 f1 f2) ++ REF T b (if inN z1 N then (if y 1 (34 + 7 * z1.toNatClampNeg + 4) = 0 then yS (va_up y 3 (rUntil N K C z1.toNatClampNeg 57 nt (lay0 y)).2) 3 0 else yS y 3 2) else yS y 3 1) w) := hD
      exact kk _ _ _ ⟨(va_up O 1 ((cUntil N K C z1.toNatClampNeg 56 nt (O 0)).2)), g, ln, un, nx, pl, f0, f1, f2, (if inN z1 N then (if y 1 (34 + 7 * z1.toNatClampNeg + 4) = 0 then yS (va_up y 3 (rUntil N K C z1.toNatClampNeg 57 nt (lay0 y)).2) 3 0 else yS y 3 2) else yS y 3 1), w, (vp_updL fo 0 ((if ((decide ((cUntil N K C z1.toNatClampNeg 56 nt (O 0)).2 8 z1.toNatClampNeg = 1))) then 1 else 0))), hP, hD, hS, hG1, lv_sub hl [2, 3, 4, 5, 6] rfl⟩
  | some E =>
    have hG1 := st.s
    refine lv_iload hx hb dL_law_2380 (lv_at hl 1 rfl) ?_
    refine lv_if_ne (tgt := 2404) hx hb dL_law_2382 (by decide) (fun _ => ?_) (fun c1 => absurd c1 kC_some)
    refine lv_goto (tgt := 3239) hx hb dL_law_2404 (by decide) ?_
    refine W.widen (k := cells + 5) (n := slots + 30) (by omega) (by omega) ?_
    have hP : va_P D vwCl ((OUT T ob fo :: WIN T v B O g ln un nx pl f0 f1 f2) ++ REF T b (if inN z1 N then (if y 1 (34 + 7 * z1.toNatClampNeg + 4) = 0 then yS (va_up y 3 (rUntil N K C z1.toNatClampNeg 57 nt (lay0 y)).2) 3 0 else yS y 3 2) else yS y 3 1) w) H := hP
    have hD : va_D A ((OUT T ob fo :: WIN T v B O g ln un nx pl f0 f1 f2) ++ REF T b (if inN z1 N then (if y 1 (34 + 7 * z1.toNatClampNeg + 4) = 0 then yS (va_up y 3 (rUntil N K C z1.toNatClampNeg 57 nt (lay0 y)).2) 3 0 else yS y 3 2) else yS y 3 1) w) := hD
    exact kk _ _ _ ⟨O, g, ln, un, nx, pl, f0, f1, f2, (if inN z1 N then (if y 1 (34 + 7 * z1.toNatClampNeg + 4) = 0 then yS (va_up y 3 (rUntil N K C z1.toNatClampNeg 57 nt (lay0 y)).2) 3 0 else yS y 3 2) else yS y 3 1), w, fo, hP, hD, hS, hG1, lv_sub hl [2, 3, 4, 5, 6] rfl⟩

set_option maxHeartbeats 4000000 in
set_option maxRecDepth 100000 in
theorem arm_50 (X : LCX p l s m args c D T aK aV A sc L xs) {i : Nat} (hi : i + 6 ≤ L) {H : Heap} {locs : List Loc} {ls : Array Slot} {cells slots : Nat} (hcs : cells + 5 ≤ room_1.cells ∧ slots + 30 ≤ room_1.slots) (h : LST s D T A sc v B b ob i H locs ls) (kk : ∀ (H1 : Heap) (locs1 : List Loc) (ls1 : Array Slot), LST s D T A sc v B b ob i H1 locs1 ls1 → W p l e room_1 s m args below meth c H1 locs1 (cells + 5) (slots + 30) Q (F0 m 3239 ls1 [])) : W p l e room_1 s m args below meth c H locs cells slots Q (F0 m 2407 ls []) := by
  obtain ⟨hl9, hx, hb, hml, hown, hts, hX, hsc, hscA, hA, hC, hN, hK, hL⟩ := X
  obtain ⟨O, g, ln, un, nx, pl, f0, f1, f2, y, w, fo, hP, hD, hS, hG, hl⟩ := h
  obtain ⟨N, K, C, nt, hn, h9⟩ := id hG.1
  obtain ⟨z1, hz1⟩ : ∃ z, xs (i + 1) = z := ⟨_, rfl⟩
  obtain ⟨z2, hz2⟩ : ∃ z, xs (i + 2) = z := ⟨_, rfl⟩
  obtain ⟨z3, hz3⟩ : ∃ z, xs (i + 3) = z := ⟨_, rfl⟩
  refine lv_aload_n hx hb dL_law_2407 rfl (lv_at hl 1 rfl) ?_
  refine lv_aload_n hx hb dL_law_2408 rfl (lv_at hl 0 rfl) ?_
  refine lv_iload hx hb dL_law_2409 (lv_at hl 4 rfl) ?_
  refine lv_iconst (v := 1) hx hb dL_law_2411 (by decide) ?_
  refine lv_iadd hx hb dL_law_2412 ?_
  refine endI (r := nI (i + 1)) (nI_add i 1) ?_
  refine sldN hx hb hX hsc hscA hS hz1 (by omega) hL dL_law_2413 ?_
  refine lv_aload_n hx hb dL_law_2414 rfl (lv_at hl 0 rfl) ?_
  refine lv_iload hx hb dL_law_2415 (lv_at hl 4 rfl) ?_
  refine lv_iconst (v := 2) hx hb dL_law_2417 (by decide) ?_
  refine lv_iadd hx hb dL_law_2418 ?_
  refine endI (r := nI (i + 2)) (nI_add i 2) ?_
  refine sldN hx hb hX hsc hscA hS hz2 (by omega) hL dL_law_2419 ?_
  refine lv_aload_n hx hb dL_law_2420 rfl (lv_at hl 0 rfl) ?_
  refine lv_iload hx hb dL_law_2421 (lv_at hl 4 rfl) ?_
  refine lv_iconst (v := 3) hx hb dL_law_2423 (by decide) ?_
  refine lv_iadd hx hb dL_law_2424 ?_
  refine endI (r := nI (i + 3)) (nI_add i 3) ?_
  refine sldN hx hb hX hsc hscA hS hz3 (by omega) hL dL_law_2425 ?_
  refine lv_aload_n hx hb dL_law_2426 rfl (lv_at hl 3 rfl) ?_
  refine wlSi (As := [.ref (v 0), .int z1, .int z2, .int z3, .ref ob]) (rest := []) ⟨hx, hb, hml, hown, hts⟩ (c_L_fileComplaint l hl9 D T aK aV v B O g ln un nx pl f0 f1 f2 ob fo z1 z2 z3 N K C nt hn.oi hG.2.1.2.1 hG.2.1.2.2.1 _) (vx_cwSW 5 hts gl_L_fileComplaint rfl rfl rfl (by decide +kernel) ⟨Nat.le_of_ble_eq_true rfl, Nat.le_of_ble_eq_true rfl⟩) (Foc.lft _ _ _) hC hN hK hP hD hS hA rfl hl.1 rfl (Nat.le_of_ble_eq_true rfl) ⟨by omega, by omega⟩ dL_law_2427 (fun H locs hP hD hS => ?_)
  refine lv_istore (lv' := [(5, .int (kC "java/lang/IllegalArgumentException" (orE (chkB (rg z1 0 99) "java/lang/IllegalArgumentException") (orE (chkB (rg z2 0 3) "java/lang/IllegalArgumentException") (orE (chkB (rg z3 1 9) "java/lang/IllegalArgumentException") (orE (chkB (decide (N < 24)) "java/lang/IllegalStateException") (chkB ((findC (O 0) z1 z2 N).isNone) "java/lang/IllegalStateException"))))))), (0, .ref sc), (1, .ref (v 0)), (2, .ref (b 0)), (3, .ref ob), (4, .int (nI i))]) hx hb dL_law_2430 hl (by decide) rfl (fun ls hl => ?_)
  refine lv_aload_n hx hb dL_law_2432 rfl (lv_at hl 3 rfl) ?_
  refine lv_aload_n hx hb dL_law_2433 rfl (lv_at hl 1 rfl) ?_
  refine lv_iload hx hb dL_law_2434 (lv_at hl 5 rfl) ?_
  refine lv_iconst (v := 1) hx hb dL_law_2436 (by decide) ?_
  refine lv_iadd hx hb dL_law_2437 ?_
  refine endI (r := nI (i + 1)) (nI_add i 1) ?_
  refine sldN hx hb hX hsc hscA hS hz1 (by omega) hL dL_law_2438 ?_
  refine lv_aload_n hx hb dL_law_2439 rfl (lv_at hl 1 rfl) ?_
  refine lv_iload hx hb dL_law_2440 (lv_at hl 5 rfl) ?_
  refine lv_iconst (v := 2) hx hb dL_law_2442 (by decide) ?_
  refine lv_iadd hx hb dL_law_2443 ?_
  refine endI (r := nI (i + 2)) (nI_add i 2) ?_
  refine sldN hx hb hX hsc hscA hS hz2 (by omega) hL dL_law_2444 ?_
  refine lv_aload_n hx hb dL_law_2445 rfl (lv_at hl 1 rfl) ?_
  refine lv_iload hx hb dL_law_2446 (lv_at hl 5 rfl) ?_
  refine lv_iconst (v := 3) hx hb dL_law_2448 (by decide) ?_
  refine lv_iadd hx hb dL_law_2449 ?_
  refine endI (r := nI (i + 3)) (nI_add i 3) ?_
  refine sldN hx hb hX hsc hscA hS hz3 (by omega) hL dL_law_2450 ?_
  refine wrVi (As := [.int z1, .int z2, .int z3]) (rest := []) ⟨hx, hb, hml, hown, hts⟩ (c_X10_fileComplaint l D T b y w z1 z2 z3 N K C nt un hn.ri hG.2.1.1 hG.2.1.2.1 _) (cwV 3 hts gl_X10_fileComplaint rfl rfl rfl (by decide +kernel) ⟨Nat.le_of_ble_eq_true rfl, Nat.le_of_ble_eq_true rfl⟩) (Foc.rgt _ _ _) hK hP hD hS hA 0 rfl rfl rfl hl.1 rfl (Nat.le_of_ble_eq_true rfl) ⟨by omega, by omega⟩ dL_law_2451 (fun H locs hP hD hS => ?_)
  refine lv_istore (lv' := [(6, .int (if fileCode (y 1) N z1 z2 z3 = 0 then nI N else 0)), (5, .int (kC "java/lang/IllegalArgumentException" (orE (chkB (rg z1 0 99) "java/lang/IllegalArgumentException") (orE (chkB (rg z2 0 3) "java/lang/IllegalArgumentException") (orE (chkB (rg z3 1 9) "java/lang/IllegalArgumentException") (orE (chkB (decide (N < 24)) "java/lang/IllegalStateException") (chkB ((findC (O 0) z1 z2 N).isNone) "java/lang/IllegalStateException"))))))), (0, .ref sc), (1, .ref (v 0)), (2, .ref (b 0)), (3, .ref ob), (4, .int (nI i))]) hx hb dL_law_2454 hl (by decide) rfl (fun ls hl => ?_)
  refine lv_aload_n hx hb dL_law_2456 rfl (lv_at hl 4 rfl) ?_
  refine rdV (As := []) (rest := []) ⟨hx, hb, hml, hown, hts⟩ (c_X10_thrown l D T b (if fileCode (y 1) N z1 z2 z3 = 0 then va_up (rKeep (yS y 3 0)) 1 (rFiles (y 1) N z1 z2 z3) else yS y 3 (fileCode (y 1) N z1 z2 z3)) w) (cwV 0 hts gl_X10_thrown rfl rfl rfl (by decide +kernel) ⟨Nat.le_of_ble_eq_true rfl, Nat.le_of_ble_eq_true rfl⟩) hK ((Foc.rgt _ _ []).subP hP) 0 rfl rfl rfl hl.1 rfl (Nat.le_of_ble_eq_true rfl) ⟨by omega, by omega⟩ dL_law_2457 ?_
  refine lv_iload hx hb dL_law_2460 (lv_at hl 1 rfl) ?_
  have st := st_fileComplaint hG hn h9 z1 z2 z3
  have hk := st.code
  refine lv_icmp_eq (tgt := 2467) hx hb dL_law_2462 (by decide) (fun _ => ?_) (fun c1 => absurd hk c1)
  generalize hcd : (orE (chkB (rg z1 0 99) "java/lang/IllegalArgumentException") (orE (chkB (rg z2 0 3) "java/lang/IllegalArgumentException") (orE (chkB (rg z3 1 9) "java/lang/IllegalArgumentException") (orE (chkB (decide (N < 24)) "java/lang/IllegalStateException") (chkB ((findC (O 0) z1 z2 N).isNone) "java/lang/IllegalStateException"))))) = cd at st hP hD hl
  cases cd with
  | none =>
    obtain ⟨eV, hG1⟩ := st.n
    refine lv_iload hx hb dL_law_2467 (lv_at hl 1 rfl) ?_
    refine lv_if_ne (tgt := 2484) hx hb dL_law_2469 (by decide) (fun c1 => absurd rfl c1) (fun _ => ?_)
    have hP : va_P D vwCl ((OUT T ob (vp_updL fo 0 ((nI N).toInt64)) :: WIN T v B (va_up (va_up O (3 + nx) (O 0)) 0 (pileAdd (O 0) N z1 z2 z3 ((O 0) 0 0))) g ln (if un = 8 then 8 else un + 1) ((nx + 1) % 8) pl f0 f1 f2) ++ REF T b (if fileCode (y 1) N z1 z2 z3 = 0 then va_up (rKeep (yS y 3 0)) 1 (rFiles (y 1) N z1 z2 z3) else yS y 3 (fileCode (y 1) N z1 z2 z3)) w) H := hP
    have hD : va_D A ((OUT T ob (vp_updL fo 0 ((nI N).toInt64)) :: WIN T v B (va_up (va_up O (3 + nx) (O 0)) 0 (pileAdd (O 0) N z1 z2 z3 ((O 0) 0 0))) g ln (if un = 8 then 8 else un + 1) ((nx + 1) % 8) pl f0 f1 f2) ++ REF T b (if fileCode (y 1) N z1 z2 z3 = 0 then va_up (rKeep (yS y 3 0)) 1 (rFiles (y 1) N z1 z2 z3) else yS y 3 (fileCode (y 1) N z1 z2 z3)) w) := hD
    refine lv_aload_n hx hb dL_law_2472 rfl (lv_at hl 5 rfl) ?_
    refine lv_iconst (v := 0) hx hb dL_law_2473 (by decide) ?_
    refine laldO hx hb hK hP dL_law_2474 ?_
    refine lv_iload hx hb dL_law_2475 (lv_at hl 0 rfl) ?_
    refine lv_i2l (v := (if fileCode (y 1) N z1 z2 z3 = 0 then nI N else 0).toInt64) hx hb dL_law_2477 rfl ?_
    refine W.lcmp hx hb dL_law_2478 ?_
    refine lv_if_eq (tgt := 2484) hx hb dL_law_2479 (by decide) (fun _ => ?_) (fun c1 => absurd ((lg_cmp_eq _ _).mpr eV) c1)
    refine lv_goto (tgt := 3239) hx hb dL_law_2484 (by decide) ?_
    refine W.widen (k := cells + 5) (n := slots + 30) (by omega) (by omega) ?_
    have hP : va_P D vwCl ((OUT T ob (vp_updL fo 0 ((nI N).toInt64)) :: WIN T v B (va_up (va_up O (3 + nx) (O 0)) 0 (pileAdd (O 0) N z1 z2 z3 ((O 0) 0 0))) g ln (if un = 8 then 8 else un + 1) ((nx + 1) % 8) pl f0 f1 f2) ++ REF T b (if fileCode (y 1) N z1 z2 z3 = 0 then va_up (rKeep (yS y 3 0)) 1 (rFiles (y 1) N z1 z2 z3) else yS y 3 (fileCode (y 1) N z1 z2 z3)) w) H := hP
    have hD : va_D A ((OUT T ob (vp_updL fo 0 ((nI N).toInt64)) :: WIN T v B (va_up (va_up O (3 + nx) (O 0)) 0 (pileAdd (O 0) N z1 z2 z3 ((O 0) 0 0))) g ln (if un = 8 then 8 else un + 1) ((nx + 1) % 8) pl f0 f1 f2) ++ REF T b (if fileCode (y 1) N z1 z2 z3 = 0 then va_up (rKeep (yS y 3 0)) 1 (rFiles (y 1) N z1 z2 z3) else yS y 3 (fileCode (y 1) N z1 z2 z3)) w) := hD
    exact kk _ _ _ ⟨(va_up (va_up O (3 + nx) (O 0)) 0 (pileAdd (O 0) N z1 z2 z3 ((O 0) 0 0))), g, ln, (if un = 8 then 8 else un + 1), ((nx + 1) % 8), pl, f0, f1, f2, (if fileCode (y 1) N z1 z2 z3 = 0 then va_up (rKeep (yS y 3 0)) 1 (rFiles (y 1) N z1 z2 z3) else yS y 3 (fileCode (y 1) N z1 z2 z3)), w, (vp_updL fo 0 ((nI N).toInt64)), hP, hD, hS, hG1, lv_sub hl [2, 3, 4, 5, 6] rfl⟩
  | some E =>
    have hG1 := st.s
    refine lv_iload hx hb dL_law_2467 (lv_at hl 1 rfl) ?_
    refine lv_if_ne (tgt := 2484) hx hb dL_law_2469 (by decide) (fun _ => ?_) (fun c1 => absurd c1 kC_some)
    refine lv_goto (tgt := 3239) hx hb dL_law_2484 (by decide) ?_
    refine W.widen (k := cells + 5) (n := slots + 30) (by omega) (by omega) ?_
    have hP : va_P D vwCl ((OUT T ob fo :: WIN T v B O g ln un nx pl f0 f1 f2) ++ REF T b (if fileCode (y 1) N z1 z2 z3 = 0 then va_up (rKeep (yS y 3 0)) 1 (rFiles (y 1) N z1 z2 z3) else yS y 3 (fileCode (y 1) N z1 z2 z3)) w) H := hP
    have hD : va_D A ((OUT T ob fo :: WIN T v B O g ln un nx pl f0 f1 f2) ++ REF T b (if fileCode (y 1) N z1 z2 z3 = 0 then va_up (rKeep (yS y 3 0)) 1 (rFiles (y 1) N z1 z2 z3) else yS y 3 (fileCode (y 1) N z1 z2 z3)) w) := hD
    exact kk _ _ _ ⟨O, g, ln, un, nx, pl, f0, f1, f2, (if fileCode (y 1) N z1 z2 z3 = 0 then va_up (rKeep (yS y 3 0)) 1 (rFiles (y 1) N z1 z2 z3) else yS y 3 (fileCode (y 1) N z1 z2 z3)), w, fo, hP, hD, hS, hG1, lv_sub hl [2, 3, 4, 5, 6] rfl⟩

set_option maxHeartbeats 4000000 in
set_option maxRecDepth 100000 in
theorem arm_51 (X : LCX p l s m args c D T aK aV A sc L xs) {i : Nat} (hi : i + 6 ≤ L) {H : Heap} {locs : List Loc} {ls : Array Slot} {cells slots : Nat} (hcs : cells + 5 ≤ room_1.cells ∧ slots + 30 ≤ room_1.slots) (h : LST s D T A sc v B b ob i H locs ls) (kk : ∀ (H1 : Heap) (locs1 : List Loc) (ls1 : Array Slot), LST s D T A sc v B b ob i H1 locs1 ls1 → W p l e room_1 s m args below meth c H1 locs1 (cells + 5) (slots + 30) Q (F0 m 3239 ls1 [])) : W p l e room_1 s m args below meth c H locs cells slots Q (F0 m 2487 ls []) := by
  obtain ⟨hl9, hx, hb, hml, hown, hts, hX, hsc, hscA, hA, hC, hN, hK, hL⟩ := X
  obtain ⟨O, g, ln, un, nx, pl, f0, f1, f2, y, w, fo, hP, hD, hS, hG, hl⟩ := h
  obtain ⟨N, K, C, nt, hn, h9⟩ := id hG.1
  obtain ⟨z1, hz1⟩ : ∃ z, xs (i + 1) = z := ⟨_, rfl⟩
  refine lv_aload_n hx hb dL_law_2487 rfl (lv_at hl 1 rfl) ?_
  refine lv_aload_n hx hb dL_law_2488 rfl (lv_at hl 0 rfl) ?_
  refine lv_iload hx hb dL_law_2489 (lv_at hl 4 rfl) ?_
  refine lv_iconst (v := 1) hx hb dL_law_2491 (by decide) ?_
  refine lv_iadd hx hb dL_law_2492 ?_
  refine endI (r := nI (i + 1)) (nI_add i 1) ?_
  refine sldN hx hb hX hsc hscA hS hz1 (by omega) hL dL_law_2493 ?_
  refine lv_aload_n hx hb dL_law_2494 rfl (lv_at hl 3 rfl) ?_
  refine wlSi (As := [.ref (v 0), .int z1, .ref ob]) (rest := []) ⟨hx, hb, hml, hown, hts⟩ (c_L_giveUp l hl9 D T aK aV v B O g ln un nx pl f0 f1 f2 ob fo z1 N K C nt hn.oi hG.2.1.2.1 hG.2.1.2.2.1 _) (vx_cwSW 3 hts gl_L_giveUp rfl rfl rfl (by decide +kernel) ⟨Nat.le_of_ble_eq_true rfl, Nat.le_of_ble_eq_true rfl⟩) (Foc.lft _ _ _) hC hN hK hP hD hS hA rfl hl.1 rfl (Nat.le_of_ble_eq_true rfl) ⟨by omega, by omega⟩ dL_law_2495 (fun H locs hP hD hS => ?_)
  refine lv_istore (lv' := [(5, .int (kC "java/lang/IndexOutOfBoundsException" (orE (chkB (inN z1 N) "java/lang/IndexOutOfBoundsException") (chkB (decide ((O 0) 8 z1.toNatClampNeg = 0)) "java/lang/IllegalStateException")))), (0, .ref sc), (1, .ref (v 0)), (2, .ref (b 0)), (3, .ref ob), (4, .int (nI i))]) hx hb dL_law_2498 hl (by decide) rfl (fun ls hl => ?_)
  refine lv_aload_n hx hb dL_law_2500 rfl (lv_at hl 3 rfl) ?_
  refine lv_aload_n hx hb dL_law_2501 rfl (lv_at hl 1 rfl) ?_
  refine lv_iload hx hb dL_law_2502 (lv_at hl 5 rfl) ?_
  refine lv_iconst (v := 1) hx hb dL_law_2504 (by decide) ?_
  refine lv_iadd hx hb dL_law_2505 ?_
  refine endI (r := nI (i + 1)) (nI_add i 1) ?_
  refine sldN hx hb hX hsc hscA hS hz1 (by omega) hL dL_law_2506 ?_
  refine wrVi (As := [.int z1]) (rest := []) ⟨hx, hb, hml, hown, hts⟩ (c_X10_giveUp l D T b y w z1 N K C nt un hn.ri hG.2.1.1 hG.2.1.2.1 _) (cwV 1 hts gl_X10_giveUp rfl rfl rfl (by decide +kernel) ⟨Nat.le_of_ble_eq_true rfl, Nat.le_of_ble_eq_true rfl⟩) (Foc.rgt _ _ _) hK hP hD hS hA 0 rfl rfl rfl hl.1 rfl (Nat.le_of_ble_eq_true rfl) ⟨by omega, by omega⟩ dL_law_2507 (fun H locs hP hD hS => ?_)
  refine lv_istore (lv' := [(6, .int (if inN z1 N then (if y 1 (34 + 7 * z1.toNatClampNeg + 4) = 0 then (rCloses (y 1) z1.toNatClampNeg 3 (-1)) 0 - (rCloses (y 1) z1.toNatClampNeg 3 (-1)) (34 + 7 * z1.toNatClampNeg + 3) else 0) else 0)), (5, .int (kC "java/lang/IndexOutOfBoundsException" (orE (chkB (inN z1 N) "java/lang/IndexOutOfBoundsException") (chkB (decide ((O 0) 8 z1.toNatClampNeg = 0)) "java/lang/IllegalStateException")))), (0, .ref sc), (1, .ref (v 0)), (2, .ref (b 0)), (3, .ref ob), (4, .int (nI i))]) hx hb dL_law_2510 hl (by decide) rfl (fun ls hl => ?_)
  refine lv_aload_n hx hb dL_law_2512 rfl (lv_at hl 4 rfl) ?_
  refine rdV (As := []) (rest := []) ⟨hx, hb, hml, hown, hts⟩ (c_X10_thrown l D T b (if inN z1 N then (if y 1 (34 + 7 * z1.toNatClampNeg + 4) = 0 then va_up (rKeep (yS y 3 0)) 1 (rCloses (y 1) z1.toNatClampNeg 3 (-1)) else yS y 3 2) else yS y 3 1) w) (cwV 0 hts gl_X10_thrown rfl rfl rfl (by decide +kernel) ⟨Nat.le_of_ble_eq_true rfl, Nat.le_of_ble_eq_true rfl⟩) hK ((Foc.rgt _ _ []).subP hP) 0 rfl rfl rfl hl.1 rfl (Nat.le_of_ble_eq_true rfl) ⟨by omega, by omega⟩ dL_law_2513 ?_
  refine lv_iload hx hb dL_law_2516 (lv_at hl 1 rfl) ?_
  have st := st_giveUp hG hn h9 z1
  have hk := st.code
  refine lv_icmp_eq (tgt := 2523) hx hb dL_law_2518 (by decide) (fun _ => ?_) (fun c1 => absurd hk c1)
  generalize hcd : (orE (chkB (inN z1 N) "java/lang/IndexOutOfBoundsException") (chkB (decide ((O 0) 8 z1.toNatClampNeg = 0)) "java/lang/IllegalStateException")) = cd at st hP hD hl
  cases cd with
  | none =>
    obtain ⟨eV, hG1⟩ := st.n
    refine lv_iload hx hb dL_law_2523 (lv_at hl 1 rfl) ?_
    refine lv_if_ne (tgt := 2540) hx hb dL_law_2525 (by decide) (fun c1 => absurd rfl c1) (fun _ => ?_)
    have hP : va_P D vwCl ((OUT T ob (vp_updL fo 0 (((O 0) 0 0 - (O 0) 7 z1.toNatClampNeg).toInt64)) :: WIN T v B (va_up (va_up O (3 + nx) (O 0)) 0 (pileClose (O 0) z1.toNatClampNeg 3 ((O 0) 0 0) (-1))) g ln (if un = 8 then 8 else un + 1) ((nx + 1) % 8) pl f0 f1 f2) ++ REF T b (if inN z1 N then (if y 1 (34 + 7 * z1.toNatClampNeg + 4) = 0 then va_up (rKeep (yS y 3 0)) 1 (rCloses (y 1) z1.toNatClampNeg 3 (-1)) else yS y 3 2) else yS y 3 1) w) H := hP
    have hD : va_D A ((OUT T ob (vp_updL fo 0 (((O 0) 0 0 - (O 0) 7 z1.toNatClampNeg).toInt64)) :: WIN T v B (va_up (va_up O (3 + nx) (O 0)) 0 (pileClose (O 0) z1.toNatClampNeg 3 ((O 0) 0 0) (-1))) g ln (if un = 8 then 8 else un + 1) ((nx + 1) % 8) pl f0 f1 f2) ++ REF T b (if inN z1 N then (if y 1 (34 + 7 * z1.toNatClampNeg + 4) = 0 then va_up (rKeep (yS y 3 0)) 1 (rCloses (y 1) z1.toNatClampNeg 3 (-1)) else yS y 3 2) else yS y 3 1) w) := hD
    refine lv_aload_n hx hb dL_law_2528 rfl (lv_at hl 5 rfl) ?_
    refine lv_iconst (v := 0) hx hb dL_law_2529 (by decide) ?_
    refine laldO hx hb hK hP dL_law_2530 ?_
    refine lv_iload hx hb dL_law_2531 (lv_at hl 0 rfl) ?_
    refine lv_i2l (v := (if inN z1 N then (if y 1 (34 + 7 * z1.toNatClampNeg + 4) = 0 then (rCloses (y 1) z1.toNatClampNeg 3 (-1)) 0 - (rCloses (y 1) z1.toNatClampNeg 3 (-1)) (34 + 7 * z1.toNatClampNeg + 3) else 0) else 0).toInt64) hx hb dL_law_2533 rfl ?_
    refine W.lcmp hx hb dL_law_2534 ?_
    refine lv_if_eq (tgt := 2540) hx hb dL_law_2535 (by decide) (fun _ => ?_) (fun c1 => absurd ((lg_cmp_eq _ _).mpr eV) c1)
    refine lv_goto (tgt := 3239) hx hb dL_law_2540 (by decide) ?_
    refine W.widen (k := cells + 5) (n := slots + 30) (by omega) (by omega) ?_
    have hP : va_P D vwCl ((OUT T ob (vp_updL fo 0 (((O 0) 0 0 - (O 0) 7 z1.toNatClampNeg).toInt64)) :: WIN T v B (va_up (va_up O (3 + nx) (O 0)) 0 (pileClose (O 0) z1.toNatClampNeg 3 ((O 0) 0 0) (-1))) g ln (if un = 8 then 8 else un + 1) ((nx + 1) % 8) pl f0 f1 f2) ++ REF T b (if inN z1 N then (if y 1 (34 + 7 * z1.toNatClampNeg + 4) = 0 then va_up (rKeep (yS y 3 0)) 1 (rCloses (y 1) z1.toNatClampNeg 3 (-1)) else yS y 3 2) else yS y 3 1) w) H := hP
    have hD : va_D A ((OUT T ob (vp_updL fo 0 (((O 0) 0 0 - (O 0) 7 z1.toNatClampNeg).toInt64)) :: WIN T v B (va_up (va_up O (3 + nx) (O 0)) 0 (pileClose (O 0) z1.toNatClampNeg 3 ((O 0) 0 0) (-1))) g ln (if un = 8 then 8 else un + 1) ((nx + 1) % 8) pl f0 f1 f2) ++ REF T b (if inN z1 N then (if y 1 (34 + 7 * z1.toNatClampNeg + 4) = 0 then va_up (rKeep (yS y 3 0)) 1 (rCloses (y 1) z1.toNatClampNeg 3 (-1)) else yS y 3 2) else yS y 3 1) w) := hD
    exact kk _ _ _ ⟨(va_up (va_up O (3 + nx) (O 0)) 0 (pileClose (O 0) z1.toNatClampNeg 3 ((O 0) 0 0) (-1))), g, ln, (if un = 8 then 8 else un + 1), ((nx + 1) % 8), pl, f0, f1, f2, (if inN z1 N then (if y 1 (34 + 7 * z1.toNatClampNeg + 4) = 0 then va_up (rKeep (yS y 3 0)) 1 (rCloses (y 1) z1.toNatClampNeg 3 (-1)) else yS y 3 2) else yS y 3 1), w, (vp_updL fo 0 (((O 0) 0 0 - (O 0) 7 z1.toNatClampNeg).toInt64)), hP, hD, hS, hG1, lv_sub hl [2, 3, 4, 5, 6] rfl⟩
  | some E =>
    have hG1 := st.s
    refine lv_iload hx hb dL_law_2523 (lv_at hl 1 rfl) ?_
    refine lv_if_ne (tgt := 2540) hx hb dL_law_2525 (by decide) (fun _ => ?_) (fun c1 => absurd c1 kC_some)
    refine lv_goto (tgt := 3239) hx hb dL_law_2540 (by decide) ?_
    refine W.widen (k := cells + 5) (n := slots + 30) (by omega) (by omega) ?_
    have hP : va_P D vwCl ((OUT T ob fo :: WIN T v B O g ln un nx pl f0 f1 f2) ++ REF T b (if inN z1 N then (if y 1 (34 + 7 * z1.toNatClampNeg + 4) = 0 then va_up (rKeep (yS y 3 0)) 1 (rCloses (y 1) z1.toNatClampNeg 3 (-1)) else yS y 3 2) else yS y 3 1) w) H := hP
    have hD : va_D A ((OUT T ob fo :: WIN T v B O g ln un nx pl f0 f1 f2) ++ REF T b (if inN z1 N then (if y 1 (34 + 7 * z1.toNatClampNeg + 4) = 0 then va_up (rKeep (yS y 3 0)) 1 (rCloses (y 1) z1.toNatClampNeg 3 (-1)) else yS y 3 2) else yS y 3 1) w) := hD
    exact kk _ _ _ ⟨O, g, ln, un, nx, pl, f0, f1, f2, (if inN z1 N then (if y 1 (34 + 7 * z1.toNatClampNeg + 4) = 0 then va_up (rKeep (yS y 3 0)) 1 (rCloses (y 1) z1.toNatClampNeg 3 (-1)) else yS y 3 2) else yS y 3 1), w, fo, hP, hD, hS, hG1, lv_sub hl [2, 3, 4, 5, 6] rfl⟩

set_option maxHeartbeats 4000000 in
set_option maxRecDepth 100000 in
theorem arm_52 (X : LCX p l s m args c D T aK aV A sc L xs) {i : Nat} (hi : i + 6 ≤ L) {H : Heap} {locs : List Loc} {ls : Array Slot} {cells slots : Nat} (hcs : cells + 5 ≤ room_1.cells ∧ slots + 30 ≤ room_1.slots) (h : LST s D T A sc v B b ob i H locs ls) (kk : ∀ (H1 : Heap) (locs1 : List Loc) (ls1 : Array Slot), LST s D T A sc v B b ob i H1 locs1 ls1 → W p l e room_1 s m args below meth c H1 locs1 (cells + 5) (slots + 30) Q (F0 m 3239 ls1 [])) : W p l e room_1 s m args below meth c H locs cells slots Q (F0 m 2543 ls []) := by
  obtain ⟨hl9, hx, hb, hml, hown, hts, hX, hsc, hscA, hA, hC, hN, hK, hL⟩ := X
  obtain ⟨O, g, ln, un, nx, pl, f0, f1, f2, y, w, fo, hP, hD, hS, hG, hl⟩ := h
  obtain ⟨N, K, C, nt, hn, h9⟩ := id hG.1
  obtain ⟨z1, hz1⟩ : ∃ z, xs (i + 1) = z := ⟨_, rfl⟩
  obtain ⟨z2, hz2⟩ : ∃ z, xs (i + 2) = z := ⟨_, rfl⟩
  refine lv_aload_n hx hb dL_law_2543 rfl (lv_at hl 1 rfl) ?_
  refine lv_aload_n hx hb dL_law_2544 rfl (lv_at hl 0 rfl) ?_
  refine lv_iload hx hb dL_law_2545 (lv_at hl 4 rfl) ?_
  refine lv_iconst (v := 1) hx hb dL_law_2547 (by decide) ?_
  refine lv_iadd hx hb dL_law_2548 ?_
  refine endI (r := nI (i + 1)) (nI_add i 1) ?_
  refine sldN hx hb hX hsc hscA hS hz1 (by omega) hL dL_law_2549 ?_
  refine lv_aload_n hx hb dL_law_2550 rfl (lv_at hl 0 rfl) ?_
  refine lv_iload hx hb dL_law_2551 (lv_at hl 4 rfl) ?_
  refine lv_iconst (v := 2) hx hb dL_law_2553 (by decide) ?_
  refine lv_iadd hx hb dL_law_2554 ?_
  refine endI (r := nI (i + 2)) (nI_add i 2) ?_
  refine sldN hx hb hX hsc hscA hS hz2 (by omega) hL dL_law_2555 ?_
  refine lv_aload_n hx hb dL_law_2556 rfl (lv_at hl 3 rfl) ?_
  refine wlSi (As := [.ref (v 0), .int z1, .int z2, .ref ob]) (rest := []) ⟨hx, hb, hml, hown, hts⟩ (c_L_addClerk l hl9 D T aK aV v B O g ln un nx pl f0 f1 f2 ob fo z1 z2 N K C nt hn.oi hG.2.1.2.1 hG.2.1.2.2.1 _) (vx_cwSW 4 hts gl_L_addClerk rfl rfl rfl (by decide +kernel) ⟨Nat.le_of_ble_eq_true rfl, Nat.le_of_ble_eq_true rfl⟩) (Foc.lft _ _ _) hC hN hK hP hD hS hA rfl hl.1 rfl (Nat.le_of_ble_eq_true rfl) ⟨by omega, by omega⟩ dL_law_2557 (fun H locs hP hD hS => ?_)
  refine lv_istore (lv' := [(5, .int (kC "java/lang/IllegalArgumentException" (orE (chkB (rg z1 1 9) "java/lang/IllegalArgumentException") (orE (chkB (rg z2 0 99) "java/lang/IllegalArgumentException") (chkB (decide (K < 5)) "java/lang/IllegalStateException"))))), (0, .ref sc), (1, .ref (v 0)), (2, .ref (b 0)), (3, .ref ob), (4, .int (nI i))]) hx hb dL_law_2560 hl (by decide) rfl (fun ls hl => ?_)
  refine lv_aload_n hx hb dL_law_2562 rfl (lv_at hl 3 rfl) ?_
  refine lv_aload_n hx hb dL_law_2563 rfl (lv_at hl 1 rfl) ?_
  refine lv_iload hx hb dL_law_2564 (lv_at hl 5 rfl) ?_
  refine lv_iconst (v := 1) hx hb dL_law_2566 (by decide) ?_
  refine lv_iadd hx hb dL_law_2567 ?_
  refine endI (r := nI (i + 1)) (nI_add i 1) ?_
  refine sldN hx hb hX hsc hscA hS hz1 (by omega) hL dL_law_2568 ?_
  refine lv_aload_n hx hb dL_law_2569 rfl (lv_at hl 1 rfl) ?_
  refine lv_iload hx hb dL_law_2570 (lv_at hl 5 rfl) ?_
  refine lv_iconst (v := 2) hx hb dL_law_2572 (by decide) ?_
  refine lv_iadd hx hb dL_law_2573 ?_
  refine endI (r := nI (i + 2)) (nI_add i 2) ?_
  refine sldN hx hb hX hsc hscA hS hz2 (by omega) hL dL_law_2574 ?_
  refine wrVi (As := [.int z1, .int z2]) (rest := []) ⟨hx, hb, hml, hown, hts⟩ (c_X10_addClerk l D T b y w z1 z2 N K C nt un hn.ri hG.2.1.1 hG.2.1.2.1 _) (cwV 2 hts gl_X10_addClerk rfl rfl rfl (by decide +kernel) ⟨Nat.le_of_ble_eq_true rfl, Nat.le_of_ble_eq_true rfl⟩) (Foc.rgt _ _ _) hK hP hD hS hA 0 rfl rfl rfl hl.1 rfl (Nat.le_of_ble_eq_true rfl) ⟨by omega, by omega⟩ dL_law_2575 (fun H locs hP hD hS => ?_)
  refine lv_istore (lv' := [(6, .int (if rg z1 1 9 && rg z2 0 99 then (if K = 5 then 0 else nI K) else 0)), (5, .int (kC "java/lang/IllegalArgumentException" (orE (chkB (rg z1 1 9) "java/lang/IllegalArgumentException") (orE (chkB (rg z2 0 99) "java/lang/IllegalArgumentException") (chkB (decide (K < 5)) "java/lang/IllegalStateException"))))), (0, .ref sc), (1, .ref (v 0)), (2, .ref (b 0)), (3, .ref ob), (4, .int (nI i))]) hx hb dL_law_2578 hl (by decide) rfl (fun ls hl => ?_)
  refine lv_aload_n hx hb dL_law_2580 rfl (lv_at hl 4 rfl) ?_
  refine rdV (As := []) (rest := []) ⟨hx, hb, hml, hown, hts⟩ (c_X10_thrown l D T b (if rg z1 1 9 && rg z2 0 99 then (if K = 5 then yS y 3 2 else va_up (rKeep (yS y 3 0)) 1 (rAddsClerk (y 1) K z1 z2)) else yS y 3 1) w) (cwV 0 hts gl_X10_thrown rfl rfl rfl (by decide +kernel) ⟨Nat.le_of_ble_eq_true rfl, Nat.le_of_ble_eq_true rfl⟩) hK ((Foc.rgt _ _ []).subP hP) 0 rfl rfl rfl hl.1 rfl (Nat.le_of_ble_eq_true rfl) ⟨by omega, by omega⟩ dL_law_2581 ?_
  refine lv_iload hx hb dL_law_2584 (lv_at hl 1 rfl) ?_
  have st := st_addClerk hG hn h9 z1 z2
  have hk := st.code
  refine lv_icmp_eq (tgt := 2591) hx hb dL_law_2586 (by decide) (fun _ => ?_) (fun c1 => absurd hk c1)
  generalize hcd : (orE (chkB (rg z1 1 9) "java/lang/IllegalArgumentException") (orE (chkB (rg z2 0 99) "java/lang/IllegalArgumentException") (chkB (decide (K < 5)) "java/lang/IllegalStateException"))) = cd at st hP hD hl
  cases cd with
  | none =>
    obtain ⟨eV, hG1⟩ := st.n
    refine lv_iload hx hb dL_law_2591 (lv_at hl 1 rfl) ?_
    refine lv_if_ne (tgt := 2608) hx hb dL_law_2593 (by decide) (fun c1 => absurd rfl c1) (fun _ => ?_)
    have hP : va_P D vwCl ((OUT T ob (vp_updL fo 0 ((nI K).toInt64)) :: WIN T v B (va_up (va_up O (3 + nx) (O 0)) 0 (staffAdd (O 0) K z1 z2)) g ln (if un = 8 then 8 else un + 1) ((nx + 1) % 8) pl f0 f1 f2) ++ REF T b (if rg z1 1 9 && rg z2 0 99 then (if K = 5 then yS y 3 2 else va_up (rKeep (yS y 3 0)) 1 (rAddsClerk (y 1) K z1 z2)) else yS y 3 1) w) H := hP
    have hD : va_D A ((OUT T ob (vp_updL fo 0 ((nI K).toInt64)) :: WIN T v B (va_up (va_up O (3 + nx) (O 0)) 0 (staffAdd (O 0) K z1 z2)) g ln (if un = 8 then 8 else un + 1) ((nx + 1) % 8) pl f0 f1 f2) ++ REF T b (if rg z1 1 9 && rg z2 0 99 then (if K = 5 then yS y 3 2 else va_up (rKeep (yS y 3 0)) 1 (rAddsClerk (y 1) K z1 z2)) else yS y 3 1) w) := hD
    refine lv_aload_n hx hb dL_law_2596 rfl (lv_at hl 5 rfl) ?_
    refine lv_iconst (v := 0) hx hb dL_law_2597 (by decide) ?_
    refine laldO hx hb hK hP dL_law_2598 ?_
    refine lv_iload hx hb dL_law_2599 (lv_at hl 0 rfl) ?_
    refine lv_i2l (v := (if rg z1 1 9 && rg z2 0 99 then (if K = 5 then 0 else nI K) else 0).toInt64) hx hb dL_law_2601 rfl ?_
    refine W.lcmp hx hb dL_law_2602 ?_
    refine lv_if_eq (tgt := 2608) hx hb dL_law_2603 (by decide) (fun _ => ?_) (fun c1 => absurd ((lg_cmp_eq _ _).mpr eV) c1)
    refine lv_goto (tgt := 3239) hx hb dL_law_2608 (by decide) ?_
    refine W.widen (k := cells + 5) (n := slots + 30) (by omega) (by omega) ?_
    have hP : va_P D vwCl ((OUT T ob (vp_updL fo 0 ((nI K).toInt64)) :: WIN T v B (va_up (va_up O (3 + nx) (O 0)) 0 (staffAdd (O 0) K z1 z2)) g ln (if un = 8 then 8 else un + 1) ((nx + 1) % 8) pl f0 f1 f2) ++ REF T b (if rg z1 1 9 && rg z2 0 99 then (if K = 5 then yS y 3 2 else va_up (rKeep (yS y 3 0)) 1 (rAddsClerk (y 1) K z1 z2)) else yS y 3 1) w) H := hP
    have hD : va_D A ((OUT T ob (vp_updL fo 0 ((nI K).toInt64)) :: WIN T v B (va_up (va_up O (3 + nx) (O 0)) 0 (staffAdd (O 0) K z1 z2)) g ln (if un = 8 then 8 else un + 1) ((nx + 1) % 8) pl f0 f1 f2) ++ REF T b (if rg z1 1 9 && rg z2 0 99 then (if K = 5 then yS y 3 2 else va_up (rKeep (yS y 3 0)) 1 (rAddsClerk (y 1) K z1 z2)) else yS y 3 1) w) := hD
    exact kk _ _ _ ⟨(va_up (va_up O (3 + nx) (O 0)) 0 (staffAdd (O 0) K z1 z2)), g, ln, (if un = 8 then 8 else un + 1), ((nx + 1) % 8), pl, f0, f1, f2, (if rg z1 1 9 && rg z2 0 99 then (if K = 5 then yS y 3 2 else va_up (rKeep (yS y 3 0)) 1 (rAddsClerk (y 1) K z1 z2)) else yS y 3 1), w, (vp_updL fo 0 ((nI K).toInt64)), hP, hD, hS, hG1, lv_sub hl [2, 3, 4, 5, 6] rfl⟩
  | some E =>
    have hG1 := st.s
    refine lv_iload hx hb dL_law_2591 (lv_at hl 1 rfl) ?_
    refine lv_if_ne (tgt := 2608) hx hb dL_law_2593 (by decide) (fun _ => ?_) (fun c1 => absurd c1 kC_some)
    refine lv_goto (tgt := 3239) hx hb dL_law_2608 (by decide) ?_
    refine W.widen (k := cells + 5) (n := slots + 30) (by omega) (by omega) ?_
    have hP : va_P D vwCl ((OUT T ob fo :: WIN T v B O g ln un nx pl f0 f1 f2) ++ REF T b (if rg z1 1 9 && rg z2 0 99 then (if K = 5 then yS y 3 2 else va_up (rKeep (yS y 3 0)) 1 (rAddsClerk (y 1) K z1 z2)) else yS y 3 1) w) H := hP
    have hD : va_D A ((OUT T ob fo :: WIN T v B O g ln un nx pl f0 f1 f2) ++ REF T b (if rg z1 1 9 && rg z2 0 99 then (if K = 5 then yS y 3 2 else va_up (rKeep (yS y 3 0)) 1 (rAddsClerk (y 1) K z1 z2)) else yS y 3 1) w) := hD
    exact kk _ _ _ ⟨O, g, ln, un, nx, pl, f0, f1, f2, (if rg z1 1 9 && rg z2 0 99 then (if K = 5 then yS y 3 2 else va_up (rKeep (yS y 3 0)) 1 (rAddsClerk (y 1) K z1 z2)) else yS y 3 1), w, fo, hP, hD, hS, hG1, lv_sub hl [2, 3, 4, 5, 6] rfl⟩

set_option maxHeartbeats 4000000 in
set_option maxRecDepth 100000 in
theorem arm_53 (X : LCX p l s m args c D T aK aV A sc L xs) {i : Nat} (hi : i + 6 ≤ L) {H : Heap} {locs : List Loc} {ls : Array Slot} {cells slots : Nat} (hcs : cells + 5 ≤ room_1.cells ∧ slots + 30 ≤ room_1.slots) (h : LST s D T A sc v B b ob i H locs ls) (kk : ∀ (H1 : Heap) (locs1 : List Loc) (ls1 : Array Slot), LST s D T A sc v B b ob i H1 locs1 ls1 → W p l e room_1 s m args below meth c H1 locs1 (cells + 5) (slots + 30) Q (F0 m 3239 ls1 [])) : W p l e room_1 s m args below meth c H locs cells slots Q (F0 m 2611 ls []) := by
  obtain ⟨hl9, hx, hb, hml, hown, hts, hX, hsc, hscA, hA, hC, hN, hK, hL⟩ := X
  obtain ⟨O, g, ln, un, nx, pl, f0, f1, f2, y, w, fo, hP, hD, hS, hG, hl⟩ := h
  obtain ⟨N, K, C, nt, hn, h9⟩ := id hG.1
  obtain ⟨z1, hz1⟩ : ∃ z, xs (i + 1) = z := ⟨_, rfl⟩
  obtain ⟨z2, hz2⟩ : ∃ z, xs (i + 2) = z := ⟨_, rfl⟩
  refine lv_aload_n hx hb dL_law_2611 rfl (lv_at hl 1 rfl) ?_
  refine lv_aload_n hx hb dL_law_2612 rfl (lv_at hl 0 rfl) ?_
  refine lv_iload hx hb dL_law_2613 (lv_at hl 4 rfl) ?_
  refine lv_iconst (v := 1) hx hb dL_law_2615 (by decide) ?_
  refine lv_iadd hx hb dL_law_2616 ?_
  refine endI (r := nI (i + 1)) (nI_add i 1) ?_
  refine sldN hx hb hX hsc hscA hS hz1 (by omega) hL dL_law_2617 ?_
  refine lv_aload_n hx hb dL_law_2618 rfl (lv_at hl 0 rfl) ?_
  refine lv_iload hx hb dL_law_2619 (lv_at hl 4 rfl) ?_
  refine lv_iconst (v := 2) hx hb dL_law_2621 (by decide) ?_
  refine lv_iadd hx hb dL_law_2622 ?_
  refine endI (r := nI (i + 2)) (nI_add i 2) ?_
  refine sldN hx hb hX hsc hscA hS hz2 (by omega) hL dL_law_2623 ?_
  refine lv_aload_n hx hb dL_law_2624 rfl (lv_at hl 3 rfl) ?_
  refine wlSi (As := [.ref (v 0), .int z1, .int z2, .ref ob]) (rest := []) ⟨hx, hb, hml, hown, hts⟩ (c_L_refill l hl9 D T aK aV v B O g ln un nx pl f0 f1 f2 ob fo z1 z2 N K C nt hn.oi hG.2.1.2.1 hG.2.1.2.2.1 _) (vx_cwSW 4 hts gl_L_refill rfl rfl rfl (by decide +kernel) ⟨Nat.le_of_ble_eq_true rfl, Nat.le_of_ble_eq_true rfl⟩) (Foc.lft _ _ _) hC hN hK hP hD hS hA rfl hl.1 rfl (Nat.le_of_ble_eq_true rfl) ⟨by omega, by omega⟩ dL_law_2625 (fun H locs hP hD hS => ?_)
  refine lv_istore (lv' := [(5, .int (kC "java/lang/IndexOutOfBoundsException" (orE (chkB (inN z1 K) "java/lang/IndexOutOfBoundsException") (chkB (rg z2 1 99) "java/lang/IllegalArgumentException")))), (0, .ref sc), (1, .ref (v 0)), (2, .ref (b 0)), (3, .ref ob), (4, .int (nI i))]) hx hb dL_law_2628 hl (by decide) rfl (fun ls hl => ?_)
  refine lv_aload_n hx hb dL_law_2630 rfl (lv_at hl 3 rfl) ?_
  refine lv_aload_n hx hb dL_law_2631 rfl (lv_at hl 1 rfl) ?_
  refine lv_iload hx hb dL_law_2632 (lv_at hl 5 rfl) ?_
  refine lv_iconst (v := 1) hx hb dL_law_2634 (by decide) ?_
  refine lv_iadd hx hb dL_law_2635 ?_
  refine endI (r := nI (i + 1)) (nI_add i 1) ?_
  refine sldN hx hb hX hsc hscA hS hz1 (by omega) hL dL_law_2636 ?_
  refine lv_aload_n hx hb dL_law_2637 rfl (lv_at hl 1 rfl) ?_
  refine lv_iload hx hb dL_law_2638 (lv_at hl 5 rfl) ?_
  refine lv_iconst (v := 2) hx hb dL_law_2640 (by decide) ?_
  refine lv_iadd hx hb dL_law_2641 ?_
  refine endI (r := nI (i + 2)) (nI_add i 2) ?_
  refine sldN hx hb hX hsc hscA hS hz2 (by omega) hL dL_law_2642 ?_
  refine wrVi (As := [.int z1, .int z2]) (rest := []) ⟨hx, hb, hml, hown, hts⟩ (c_X10_refill l D T b y w z1 z2 N K C nt un hn.ri hG.2.1.1 hG.2.1.2.1 _) (cwV 2 hts gl_X10_refill rfl rfl rfl (by decide +kernel) ⟨Nat.le_of_ble_eq_true rfl, Nat.le_of_ble_eq_true rfl⟩) (Foc.rgt _ _ _) hK hP hD hS hA 0 rfl rfl rfl hl.1 rfl (Nat.le_of_ble_eq_true rfl) ⟨by omega, by omega⟩ dL_law_2643 (fun H locs hP hD hS => ?_)
  refine lv_istore (lv' := [(6, .int (if inN z1 K then (if rg z2 1 99 then (va_up (y 1) (19 + 3 * z1.toNatClampNeg + 1) (if 99 < y 1 (19 + 3 * z1.toNatClampNeg + 1) + z2 then 99 else y 1 (19 + 3 * z1.toNatClampNeg + 1) + z2)) (19 + 3 * z1.toNatClampNeg + 1) else 0) else 0)), (5, .int (kC "java/lang/IndexOutOfBoundsException" (orE (chkB (inN z1 K) "java/lang/IndexOutOfBoundsException") (chkB (rg z2 1 99) "java/lang/IllegalArgumentException")))), (0, .ref sc), (1, .ref (v 0)), (2, .ref (b 0)), (3, .ref ob), (4, .int (nI i))]) hx hb dL_law_2646 hl (by decide) rfl (fun ls hl => ?_)
  refine lv_aload_n hx hb dL_law_2648 rfl (lv_at hl 4 rfl) ?_
  refine rdV (As := []) (rest := []) ⟨hx, hb, hml, hown, hts⟩ (c_X10_thrown l D T b (if inN z1 K then (if rg z2 1 99 then va_up (rKeep (yS y 3 0)) 1 (va_up (y 1) (19 + 3 * z1.toNatClampNeg + 1) (if 99 < y 1 (19 + 3 * z1.toNatClampNeg + 1) + z2 then 99 else y 1 (19 + 3 * z1.toNatClampNeg + 1) + z2)) else yS y 3 2) else yS y 3 1) w) (cwV 0 hts gl_X10_thrown rfl rfl rfl (by decide +kernel) ⟨Nat.le_of_ble_eq_true rfl, Nat.le_of_ble_eq_true rfl⟩) hK ((Foc.rgt _ _ []).subP hP) 0 rfl rfl rfl hl.1 rfl (Nat.le_of_ble_eq_true rfl) ⟨by omega, by omega⟩ dL_law_2649 ?_
  refine lv_iload hx hb dL_law_2652 (lv_at hl 1 rfl) ?_
  have st := st_refill hG hn h9 z1 z2
  have hk := st.code
  refine lv_icmp_eq (tgt := 2659) hx hb dL_law_2654 (by decide) (fun _ => ?_) (fun c1 => absurd hk c1)
  generalize hcd : (orE (chkB (inN z1 K) "java/lang/IndexOutOfBoundsException") (chkB (rg z2 1 99) "java/lang/IllegalArgumentException")) = cd at st hP hD hl
  cases cd with
  | none =>
    obtain ⟨eV, hG1⟩ := st.n
    refine lv_iload hx hb dL_law_2659 (lv_at hl 1 rfl) ?_
    refine lv_if_ne (tgt := 2676) hx hb dL_law_2661 (by decide) (fun c1 => absurd rfl c1) (fun _ => ?_)
    have hP : va_P D vwCl ((OUT T ob (vp_updL fo 0 ((if (O 0) 3 z1.toNatClampNeg + z2 < 99 then (O 0) 3 z1.toNatClampNeg + z2 else 99).toInt64)) :: WIN T v B (va_up (va_up O (3 + nx) (O 0)) 0 (va_up (O 0) 3 (va_up ((O 0) 3) z1.toNatClampNeg (if (O 0) 3 z1.toNatClampNeg + z2 < 99 then (O 0) 3 z1.toNatClampNeg + z2 else 99)))) g ln (if un = 8 then 8 else un + 1) ((nx + 1) % 8) pl f0 f1 f2) ++ REF T b (if inN z1 K then (if rg z2 1 99 then va_up (rKeep (yS y 3 0)) 1 (va_up (y 1) (19 + 3 * z1.toNatClampNeg + 1) (if 99 < y 1 (19 + 3 * z1.toNatClampNeg + 1) + z2 then 99 else y 1 (19 + 3 * z1.toNatClampNeg + 1) + z2)) else yS y 3 2) else yS y 3 1) w) H := hP
    have hD : va_D A ((OUT T ob (vp_updL fo 0 ((if (O 0) 3 z1.toNatClampNeg + z2 < 99 then (O 0) 3 z1.toNatClampNeg + z2 else 99).toInt64)) :: WIN T v B (va_up (va_up O (3 + nx) (O 0)) 0 (va_up (O 0) 3 (va_up ((O 0) 3) z1.toNatClampNeg (if (O 0) 3 z1.toNatClampNeg + z2 < 99 then (O 0) 3 z1.toNatClampNeg + z2 else 99)))) g ln (if un = 8 then 8 else un + 1) ((nx + 1) % 8) pl f0 f1 f2) ++ REF T b (if inN z1 K then (if rg z2 1 99 then va_up (rKeep (yS y 3 0)) 1 (va_up (y 1) (19 + 3 * z1.toNatClampNeg + 1) (if 99 < y 1 (19 + 3 * z1.toNatClampNeg + 1) + z2 then 99 else y 1 (19 + 3 * z1.toNatClampNeg + 1) + z2)) else yS y 3 2) else yS y 3 1) w) := hD
    refine lv_aload_n hx hb dL_law_2664 rfl (lv_at hl 5 rfl) ?_
    refine lv_iconst (v := 0) hx hb dL_law_2665 (by decide) ?_
    refine laldO hx hb hK hP dL_law_2666 ?_
    refine lv_iload hx hb dL_law_2667 (lv_at hl 0 rfl) ?_
    refine lv_i2l (v := (if inN z1 K then (if rg z2 1 99 then (va_up (y 1) (19 + 3 * z1.toNatClampNeg + 1) (if 99 < y 1 (19 + 3 * z1.toNatClampNeg + 1) + z2 then 99 else y 1 (19 + 3 * z1.toNatClampNeg + 1) + z2)) (19 + 3 * z1.toNatClampNeg + 1) else 0) else 0).toInt64) hx hb dL_law_2669 rfl ?_
    refine W.lcmp hx hb dL_law_2670 ?_
    refine lv_if_eq (tgt := 2676) hx hb dL_law_2671 (by decide) (fun _ => ?_) (fun c1 => absurd ((lg_cmp_eq _ _).mpr eV) c1)
    refine lv_goto (tgt := 3239) hx hb dL_law_2676 (by decide) ?_
    refine W.widen (k := cells + 5) (n := slots + 30) (by omega) (by omega) ?_
    have hP : va_P D vwCl ((OUT T ob (vp_updL fo 0 ((if (O 0) 3 z1.toNatClampNeg + z2 < 99 then (O 0) 3 z1.toNatClampNeg + z2 else 99).toInt64)) :: WIN T v B (va_up (va_up O (3 + nx) (O 0)) 0 (va_up (O 0) 3 (va_up ((O 0) 3) z1.toNatClampNeg (if (O 0) 3 z1.toNatClampNeg + z2 < 99 then (O 0) 3 z1.toNatClampNeg + z2 else 99)))) g ln (if un = 8 then 8 else un + 1) ((nx + 1) % 8) pl f0 f1 f2) ++ REF T b (if inN z1 K then (if rg z2 1 99 then va_up (rKeep (yS y 3 0)) 1 (va_up (y 1) (19 + 3 * z1.toNatClampNeg + 1) (if 99 < y 1 (19 + 3 * z1.toNatClampNeg + 1) + z2 then 99 else y 1 (19 + 3 * z1.toNatClampNeg + 1) + z2)) else yS y 3 2) else yS y 3 1) w) H := hP
    have hD : va_D A ((OUT T ob (vp_updL fo 0 ((if (O 0) 3 z1.toNatClampNeg + z2 < 99 then (O 0) 3 z1.toNatClampNeg + z2 else 99).toInt64)) :: WIN T v B (va_up (va_up O (3 + nx) (O 0)) 0 (va_up (O 0) 3 (va_up ((O 0) 3) z1.toNatClampNeg (if (O 0) 3 z1.toNatClampNeg + z2 < 99 then (O 0) 3 z1.toNatClampNeg + z2 else 99)))) g ln (if un = 8 then 8 else un + 1) ((nx + 1) % 8) pl f0 f1 f2) ++ REF T b (if inN z1 K then (if rg z2 1 99 then va_up (rKeep (yS y 3 0)) 1 (va_up (y 1) (19 + 3 * z1.toNatClampNeg + 1) (if 99 < y 1 (19 + 3 * z1.toNatClampNeg + 1) + z2 then 99 else y 1 (19 + 3 * z1.toNatClampNeg + 1) + z2)) else yS y 3 2) else yS y 3 1) w) := hD
    exact kk _ _ _ ⟨(va_up (va_up O (3 + nx) (O 0)) 0 (va_up (O 0) 3 (va_up ((O 0) 3) z1.toNatClampNeg (if (O 0) 3 z1.toNatClampNeg + z2 < 99 then (O 0) 3 z1.toNatClampNeg + z2 else 99)))), g, ln, (if un = 8 then 8 else un + 1), ((nx + 1) % 8), pl, f0, f1, f2, (if inN z1 K then (if rg z2 1 99 then va_up (rKeep (yS y 3 0)) 1 (va_up (y 1) (19 + 3 * z1.toNatClampNeg + 1) (if 99 < y 1 (19 + 3 * z1.toNatClampNeg + 1) + z2 then 99 else y 1 (19 + 3 * z1.toNatClampNeg + 1) + z2)) else yS y 3 2) else yS y 3 1), w, (vp_updL fo 0 ((if (O 0) 3 z1.toNatClampNeg + z2 < 99 then (O 0) 3 z1.toNatClampNeg + z2 else 99).toInt64)), hP, hD, hS, hG1, lv_sub hl [2, 3, 4, 5, 6] rfl⟩
  | some E =>
    have hG1 := st.s
    refine lv_iload hx hb dL_law_2659 (lv_at hl 1 rfl) ?_
    refine lv_if_ne (tgt := 2676) hx hb dL_law_2661 (by decide) (fun _ => ?_) (fun c1 => absurd c1 kC_some)
    refine lv_goto (tgt := 3239) hx hb dL_law_2676 (by decide) ?_
    refine W.widen (k := cells + 5) (n := slots + 30) (by omega) (by omega) ?_
    have hP : va_P D vwCl ((OUT T ob fo :: WIN T v B O g ln un nx pl f0 f1 f2) ++ REF T b (if inN z1 K then (if rg z2 1 99 then va_up (rKeep (yS y 3 0)) 1 (va_up (y 1) (19 + 3 * z1.toNatClampNeg + 1) (if 99 < y 1 (19 + 3 * z1.toNatClampNeg + 1) + z2 then 99 else y 1 (19 + 3 * z1.toNatClampNeg + 1) + z2)) else yS y 3 2) else yS y 3 1) w) H := hP
    have hD : va_D A ((OUT T ob fo :: WIN T v B O g ln un nx pl f0 f1 f2) ++ REF T b (if inN z1 K then (if rg z2 1 99 then va_up (rKeep (yS y 3 0)) 1 (va_up (y 1) (19 + 3 * z1.toNatClampNeg + 1) (if 99 < y 1 (19 + 3 * z1.toNatClampNeg + 1) + z2 then 99 else y 1 (19 + 3 * z1.toNatClampNeg + 1) + z2)) else yS y 3 2) else yS y 3 1) w) := hD
    exact kk _ _ _ ⟨O, g, ln, un, nx, pl, f0, f1, f2, (if inN z1 K then (if rg z2 1 99 then va_up (rKeep (yS y 3 0)) 1 (va_up (y 1) (19 + 3 * z1.toNatClampNeg + 1) (if 99 < y 1 (19 + 3 * z1.toNatClampNeg + 1) + z2 then 99 else y 1 (19 + 3 * z1.toNatClampNeg + 1) + z2)) else yS y 3 2) else yS y 3 1), w, fo, hP, hD, hS, hG1, lv_sub hl [2, 3, 4, 5, 6] rfl⟩

set_option maxHeartbeats 4000000 in
set_option maxRecDepth 100000 in
theorem arm_54 (X : LCX p l s m args c D T aK aV A sc L xs) {i : Nat} (hi : i + 6 ≤ L) {H : Heap} {locs : List Loc} {ls : Array Slot} {cells slots : Nat} (hcs : cells + 5 ≤ room_1.cells ∧ slots + 30 ≤ room_1.slots) (h : LST s D T A sc v B b ob i H locs ls) (kk : ∀ (H1 : Heap) (locs1 : List Loc) (ls1 : Array Slot), LST s D T A sc v B b ob i H1 locs1 ls1 → W p l e room_1 s m args below meth c H1 locs1 (cells + 5) (slots + 30) Q (F0 m 3239 ls1 [])) : W p l e room_1 s m args below meth c H locs cells slots Q (F0 m 2679 ls []) := by
  obtain ⟨hl9, hx, hb, hml, hown, hts, hX, hsc, hscA, hA, hC, hN, hK, hL⟩ := X
  obtain ⟨O, g, ln, un, nx, pl, f0, f1, f2, y, w, fo, hP, hD, hS, hG, hl⟩ := h
  obtain ⟨N, K, C, nt, hn, h9⟩ := id hG.1
  obtain ⟨z1, hz1⟩ : ∃ z, xs (i + 1) = z := ⟨_, rfl⟩
  obtain ⟨z2, hz2⟩ : ∃ z, xs (i + 2) = z := ⟨_, rfl⟩
  refine lv_aload_n hx hb dL_law_2679 rfl (lv_at hl 1 rfl) ?_
  refine lv_aload_n hx hb dL_law_2680 rfl (lv_at hl 0 rfl) ?_
  refine lv_iload hx hb dL_law_2681 (lv_at hl 4 rfl) ?_
  refine lv_iconst (v := 1) hx hb dL_law_2683 (by decide) ?_
  refine lv_iadd hx hb dL_law_2684 ?_
  refine endI (r := nI (i + 1)) (nI_add i 1) ?_
  refine sldN hx hb hX hsc hscA hS hz1 (by omega) hL dL_law_2685 ?_
  refine lv_aload_n hx hb dL_law_2686 rfl (lv_at hl 0 rfl) ?_
  refine lv_iload hx hb dL_law_2687 (lv_at hl 4 rfl) ?_
  refine lv_iconst (v := 2) hx hb dL_law_2689 (by decide) ?_
  refine lv_iadd hx hb dL_law_2690 ?_
  refine endI (r := nI (i + 2)) (nI_add i 2) ?_
  refine sldN hx hb hX hsc hscA hS hz2 (by omega) hL dL_law_2691 ?_
  refine lv_aload_n hx hb dL_law_2692 rfl (lv_at hl 3 rfl) ?_
  refine wlSi (As := [.ref (v 0), .int z1, .int z2, .ref ob]) (rest := []) ⟨hx, hb, hml, hown, hts⟩ (c_L_setCloud l hl9 D T aK aV v B O g ln un nx pl f0 f1 f2 ob fo z1 z2 N K C nt hn.oi hG.2.1.2.1 hG.2.1.2.2.1 _) (vx_cwSW 4 hts gl_L_setCloud rfl rfl rfl (by decide +kernel) ⟨Nat.le_of_ble_eq_true rfl, Nat.le_of_ble_eq_true rfl⟩) (Foc.lft _ _ _) hC hN hK hP hD hS hA rfl hl.1 rfl (Nat.le_of_ble_eq_true rfl) ⟨by omega, by omega⟩ dL_law_2693 (fun H locs hP hD hS => ?_)
  refine lv_istore (lv' := [(5, .int (kC "java/lang/IndexOutOfBoundsException" (orE (chkB (inN z1 C) "java/lang/IndexOutOfBoundsException") (chkB (rg z2 0 9) "java/lang/IllegalArgumentException")))), (0, .ref sc), (1, .ref (v 0)), (2, .ref (b 0)), (3, .ref ob), (4, .int (nI i))]) hx hb dL_law_2696 hl (by decide) rfl (fun ls hl => ?_)
  refine lv_aload_n hx hb dL_law_2698 rfl (lv_at hl 3 rfl) ?_
  refine lv_aload_n hx hb dL_law_2699 rfl (lv_at hl 1 rfl) ?_
  refine lv_iload hx hb dL_law_2700 (lv_at hl 5 rfl) ?_
  refine lv_iconst (v := 1) hx hb dL_law_2702 (by decide) ?_
  refine lv_iadd hx hb dL_law_2703 ?_
  refine endI (r := nI (i + 1)) (nI_add i 1) ?_
  refine sldN hx hb hX hsc hscA hS hz1 (by omega) hL dL_law_2704 ?_
  refine lv_aload_n hx hb dL_law_2705 rfl (lv_at hl 1 rfl) ?_
  refine lv_iload hx hb dL_law_2706 (lv_at hl 5 rfl) ?_
  refine lv_iconst (v := 2) hx hb dL_law_2708 (by decide) ?_
  refine lv_iadd hx hb dL_law_2709 ?_
  refine endI (r := nI (i + 2)) (nI_add i 2) ?_
  refine sldN hx hb hX hsc hscA hS hz2 (by omega) hL dL_law_2710 ?_
  refine wrVi (As := [.int z1, .int z2]) (rest := []) ⟨hx, hb, hml, hown, hts⟩ (c_X10_setCloud l D T b y w z1 z2 N K C nt un hn.ri hG.2.1.1 hG.2.1.2.1 _) (cwV 2 hts gl_X10_setCloud rfl rfl rfl (by decide +kernel) ⟨Nat.le_of_ble_eq_true rfl, Nat.le_of_ble_eq_true rfl⟩) (Foc.rgt _ _ _) hK hP hD hS hA 0 rfl rfl rfl hl.1 rfl (Nat.le_of_ble_eq_true rfl) ⟨by omega, by omega⟩ dL_law_2711 (fun H locs hP hD hS => ?_)
  refine lv_istore (lv' := [(6, .int (if inN z1 C then (if rg z2 0 9 then y 1 (9 + z1.toNatClampNeg) else 0) else 0)), (5, .int (kC "java/lang/IndexOutOfBoundsException" (orE (chkB (inN z1 C) "java/lang/IndexOutOfBoundsException") (chkB (rg z2 0 9) "java/lang/IllegalArgumentException")))), (0, .ref sc), (1, .ref (v 0)), (2, .ref (b 0)), (3, .ref ob), (4, .int (nI i))]) hx hb dL_law_2714 hl (by decide) rfl (fun ls hl => ?_)
  refine lv_aload_n hx hb dL_law_2716 rfl (lv_at hl 4 rfl) ?_
  refine rdV (As := []) (rest := []) ⟨hx, hb, hml, hown, hts⟩ (c_X10_thrown l D T b (if inN z1 C then (if rg z2 0 9 then va_up (rKeep (yS y 3 0)) 1 (va_up (y 1) (9 + z1.toNatClampNeg) z2) else yS y 3 2) else yS y 3 1) w) (cwV 0 hts gl_X10_thrown rfl rfl rfl (by decide +kernel) ⟨Nat.le_of_ble_eq_true rfl, Nat.le_of_ble_eq_true rfl⟩) hK ((Foc.rgt _ _ []).subP hP) 0 rfl rfl rfl hl.1 rfl (Nat.le_of_ble_eq_true rfl) ⟨by omega, by omega⟩ dL_law_2717 ?_
  refine lv_iload hx hb dL_law_2720 (lv_at hl 1 rfl) ?_
  have st := st_setCloud hG hn h9 z1 z2
  have hk := st.code
  refine lv_icmp_eq (tgt := 2727) hx hb dL_law_2722 (by decide) (fun _ => ?_) (fun c1 => absurd hk c1)
  generalize hcd : (orE (chkB (inN z1 C) "java/lang/IndexOutOfBoundsException") (chkB (rg z2 0 9) "java/lang/IllegalArgumentException")) = cd at st hP hD hl
  cases cd with
  | none =>
    obtain ⟨eV, hG1⟩ := st.n
    refine lv_iload hx hb dL_law_2727 (lv_at hl 1 rfl) ?_
    refine lv_if_ne (tgt := 2744) hx hb dL_law_2729 (by decide) (fun c1 => absurd rfl c1) (fun _ => ?_)
    have hP : va_P D vwCl ((OUT T ob (vp_updL fo 0 (((O 0) 1 z1.toNatClampNeg).toInt64)) :: WIN T v B (va_up (va_up O (3 + nx) (O 0)) 0 (va_up (O 0) 1 (va_up ((O 0) 1) z1.toNatClampNeg z2))) g ln (if un = 8 then 8 else un + 1) ((nx + 1) % 8) pl f0 f1 f2) ++ REF T b (if inN z1 C then (if rg z2 0 9 then va_up (rKeep (yS y 3 0)) 1 (va_up (y 1) (9 + z1.toNatClampNeg) z2) else yS y 3 2) else yS y 3 1) w) H := hP
    have hD : va_D A ((OUT T ob (vp_updL fo 0 (((O 0) 1 z1.toNatClampNeg).toInt64)) :: WIN T v B (va_up (va_up O (3 + nx) (O 0)) 0 (va_up (O 0) 1 (va_up ((O 0) 1) z1.toNatClampNeg z2))) g ln (if un = 8 then 8 else un + 1) ((nx + 1) % 8) pl f0 f1 f2) ++ REF T b (if inN z1 C then (if rg z2 0 9 then va_up (rKeep (yS y 3 0)) 1 (va_up (y 1) (9 + z1.toNatClampNeg) z2) else yS y 3 2) else yS y 3 1) w) := hD
    refine lv_aload_n hx hb dL_law_2732 rfl (lv_at hl 5 rfl) ?_
    refine lv_iconst (v := 0) hx hb dL_law_2733 (by decide) ?_
    refine laldO hx hb hK hP dL_law_2734 ?_
    refine lv_iload hx hb dL_law_2735 (lv_at hl 0 rfl) ?_
    refine lv_i2l (v := (if inN z1 C then (if rg z2 0 9 then y 1 (9 + z1.toNatClampNeg) else 0) else 0).toInt64) hx hb dL_law_2737 rfl ?_
    refine W.lcmp hx hb dL_law_2738 ?_
    refine lv_if_eq (tgt := 2744) hx hb dL_law_2739 (by decide) (fun _ => ?_) (fun c1 => absurd ((lg_cmp_eq _ _).mpr eV) c1)
    refine lv_goto (tgt := 3239) hx hb dL_law_2744 (by decide) ?_
    refine W.widen (k := cells + 5) (n := slots + 30) (by omega) (by omega) ?_
    have hP : va_P D vwCl ((OUT T ob (vp_updL fo 0 (((O 0) 1 z1.toNatClampNeg).toInt64)) :: WIN T v B (va_up (va_up O (3 + nx) (O 0)) 0 (va_up (O 0) 1 (va_up ((O 0) 1) z1.toNatClampNeg z2))) g ln (if un = 8 then 8 else un + 1) ((nx + 1) % 8) pl f0 f1 f2) ++ REF T b (if inN z1 C then (if rg z2 0 9 then va_up (rKeep (yS y 3 0)) 1 (va_up (y 1) (9 + z1.toNatClampNeg) z2) else yS y 3 2) else yS y 3 1) w) H := hP
    have hD : va_D A ((OUT T ob (vp_updL fo 0 (((O 0) 1 z1.toNatClampNeg).toInt64)) :: WIN T v B (va_up (va_up O (3 + nx) (O 0)) 0 (va_up (O 0) 1 (va_up ((O 0) 1) z1.toNatClampNeg z2))) g ln (if un = 8 then 8 else un + 1) ((nx + 1) % 8) pl f0 f1 f2) ++ REF T b (if inN z1 C then (if rg z2 0 9 then va_up (rKeep (yS y 3 0)) 1 (va_up (y 1) (9 + z1.toNatClampNeg) z2) else yS y 3 2) else yS y 3 1) w) := hD
    exact kk _ _ _ ⟨(va_up (va_up O (3 + nx) (O 0)) 0 (va_up (O 0) 1 (va_up ((O 0) 1) z1.toNatClampNeg z2))), g, ln, (if un = 8 then 8 else un + 1), ((nx + 1) % 8), pl, f0, f1, f2, (if inN z1 C then (if rg z2 0 9 then va_up (rKeep (yS y 3 0)) 1 (va_up (y 1) (9 + z1.toNatClampNeg) z2) else yS y 3 2) else yS y 3 1), w, (vp_updL fo 0 (((O 0) 1 z1.toNatClampNeg).toInt64)), hP, hD, hS, hG1, lv_sub hl [2, 3, 4, 5, 6] rfl⟩
  | some E =>
    have hG1 := st.s
    refine lv_iload hx hb dL_law_2727 (lv_at hl 1 rfl) ?_
    refine lv_if_ne (tgt := 2744) hx hb dL_law_2729 (by decide) (fun _ => ?_) (fun c1 => absurd c1 kC_some)
    refine lv_goto (tgt := 3239) hx hb dL_law_2744 (by decide) ?_
    refine W.widen (k := cells + 5) (n := slots + 30) (by omega) (by omega) ?_
    have hP : va_P D vwCl ((OUT T ob fo :: WIN T v B O g ln un nx pl f0 f1 f2) ++ REF T b (if inN z1 C then (if rg z2 0 9 then va_up (rKeep (yS y 3 0)) 1 (va_up (y 1) (9 + z1.toNatClampNeg) z2) else yS y 3 2) else yS y 3 1) w) H := hP
    have hD : va_D A ((OUT T ob fo :: WIN T v B O g ln un nx pl f0 f1 f2) ++ REF T b (if inN z1 C then (if rg z2 0 9 then va_up (rKeep (yS y 3 0)) 1 (va_up (y 1) (9 + z1.toNatClampNeg) z2) else yS y 3 2) else yS y 3 1) w) := hD
    exact kk _ _ _ ⟨O, g, ln, un, nx, pl, f0, f1, f2, (if inN z1 C then (if rg z2 0 9 then va_up (rKeep (yS y 3 0)) 1 (va_up (y 1) (9 + z1.toNatClampNeg) z2) else yS y 3 2) else yS y 3 1), w, fo, hP, hD, hS, hG1, lv_sub hl [2, 3, 4, 5, 6] rfl⟩

set_option maxHeartbeats 4000000 in
set_option maxRecDepth 100000 in
theorem arm_55 (X : LCX p l s m args c D T aK aV A sc L xs) {i : Nat} (hi : i + 6 ≤ L) {H : Heap} {locs : List Loc} {ls : Array Slot} {cells slots : Nat} (hcs : cells + 5 ≤ room_1.cells ∧ slots + 30 ≤ room_1.slots) (h : LST s D T A sc v B b ob i H locs ls) (kk : ∀ (H1 : Heap) (locs1 : List Loc) (ls1 : Array Slot), LST s D T A sc v B b ob i H1 locs1 ls1 → W p l e room_1 s m args below meth c H1 locs1 (cells + 5) (slots + 30) Q (F0 m 3239 ls1 [])) : W p l e room_1 s m args below meth c H locs cells slots Q (F0 m 2747 ls []) := by
  obtain ⟨hl9, hx, hb, hml, hown, hts, hX, hsc, hscA, hA, hC, hN, hK, hL⟩ := X
  obtain ⟨O, g, ln, un, nx, pl, f0, f1, f2, y, w, fo, hP, hD, hS, hG, hl⟩ := h
  obtain ⟨N, K, C, nt, hn, h9⟩ := id hG.1
  obtain ⟨z1, hz1⟩ : ∃ z, xs (i + 1) = z := ⟨_, rfl⟩
  refine lv_aload_n hx hb dL_law_2747 rfl (lv_at hl 1 rfl) ?_
  refine lv_aload_n hx hb dL_law_2748 rfl (lv_at hl 0 rfl) ?_
  refine lv_iload hx hb dL_law_2749 (lv_at hl 4 rfl) ?_
  refine lv_iconst (v := 1) hx hb dL_law_2751 (by decide) ?_
  refine lv_iadd hx hb dL_law_2752 ?_
  refine endI (r := nI (i + 1)) (nI_add i 1) ?_
  refine sldN hx hb hX hsc hscA hS hz1 (by omega) hL dL_law_2753 ?_
  refine lv_aload_n hx hb dL_law_2754 rfl (lv_at hl 3 rfl) ?_
  refine wlSi (As := [.ref (v 0), .int z1, .ref ob]) (rest := []) ⟨hx, hb, hml, hown, hts⟩ (c_L_setGlareLimit l hl9 D T aK aV v B O g ln un nx pl f0 f1 f2 ob fo z1 N K C nt hn.oi hG.2.1.2.1 hG.2.1.2.2.1 _) (vx_cwSW 3 hts gl_L_setGlareLimit rfl rfl rfl (by decide +kernel) ⟨Nat.le_of_ble_eq_true rfl, Nat.le_of_ble_eq_true rfl⟩) (Foc.lft _ _ _) hC hN hK hP hD hS hA rfl hl.1 rfl (Nat.le_of_ble_eq_true rfl) ⟨by omega, by omega⟩ dL_law_2755 (fun H locs hP hD hS => ?_)
  refine lv_istore (lv' := [(5, .int (kC "java/lang/IllegalArgumentException" (chkB (rg z1 1 14) "java/lang/IllegalArgumentException"))), (0, .ref sc), (1, .ref (v 0)), (2, .ref (b 0)), (3, .ref ob), (4, .int (nI i))]) hx hb dL_law_2758 hl (by decide) rfl (fun ls hl => ?_)
  refine lv_aload_n hx hb dL_law_2760 rfl (lv_at hl 3 rfl) ?_
  refine lv_aload_n hx hb dL_law_2761 rfl (lv_at hl 1 rfl) ?_
  refine lv_iload hx hb dL_law_2762 (lv_at hl 5 rfl) ?_
  refine lv_iconst (v := 1) hx hb dL_law_2764 (by decide) ?_
  refine lv_iadd hx hb dL_law_2765 ?_
  refine endI (r := nI (i + 1)) (nI_add i 1) ?_
  refine sldN hx hb hX hsc hscA hS hz1 (by omega) hL dL_law_2766 ?_
  refine wrVi (As := [.int z1]) (rest := []) ⟨hx, hb, hml, hown, hts⟩ (c_X10_setGlareLimit l D T b y w z1 un hG.2.1.1 hG.2.1.2.1 _) (cwV 1 hts gl_X10_setGlareLimit rfl rfl rfl (by decide +kernel) ⟨Nat.le_of_ble_eq_true rfl, Nat.le_of_ble_eq_true rfl⟩) (Foc.rgt _ _ _) hK hP hD hS hA 0 rfl rfl rfl hl.1 rfl (Nat.le_of_ble_eq_true rfl) ⟨by omega, by omega⟩ dL_law_2767 (fun H locs hP hD hS => ?_)
  refine lv_istore (lv' := [(6, .int (if rg z1 1 14 then y 1 1 else 0)), (5, .int (kC "java/lang/IllegalArgumentException" (chkB (rg z1 1 14) "java/lang/IllegalArgumentException"))), (0, .ref sc), (1, .ref (v 0)), (2, .ref (b 0)), (3, .ref ob), (4, .int (nI i))]) hx hb dL_law_2770 hl (by decide) rfl (fun ls hl => ?_)
  refine lv_aload_n hx hb dL_law_2772 rfl (lv_at hl 4 rfl) ?_
  refine rdV (As := []) (rest := []) ⟨hx, hb, hml, hown, hts⟩ (c_X10_thrown l D T b (if rg z1 1 14 then va_up (rKeep (yS y 3 0)) 1 (va_up (y 1) 1 z1) else yS y 3 1) w) (cwV 0 hts gl_X10_thrown rfl rfl rfl (by decide +kernel) ⟨Nat.le_of_ble_eq_true rfl, Nat.le_of_ble_eq_true rfl⟩) hK ((Foc.rgt _ _ []).subP hP) 0 rfl rfl rfl hl.1 rfl (Nat.le_of_ble_eq_true rfl) ⟨by omega, by omega⟩ dL_law_2773 ?_
  refine lv_iload hx hb dL_law_2776 (lv_at hl 1 rfl) ?_
  have st := st_setGlareLimit hG hn h9 z1
  have hk := st.code
  refine lv_icmp_eq (tgt := 2783) hx hb dL_law_2778 (by decide) (fun _ => ?_) (fun c1 => absurd hk c1)
  generalize hcd : (chkB (rg z1 1 14) "java/lang/IllegalArgumentException") = cd at st hP hD hl
  cases cd with
  | none =>
    obtain ⟨eV, hG1⟩ := st.n
    refine lv_iload hx hb dL_law_2783 (lv_at hl 1 rfl) ?_
    refine lv_if_ne (tgt := 2800) hx hb dL_law_2785 (by decide) (fun c1 => absurd rfl c1) (fun _ => ?_)
    have hP : va_P D vwCl ((OUT T ob (vp_updL fo 0 (((O 0) 0 1).toInt64)) :: WIN T v B (va_up (va_up O (3 + nx) (O 0)) 0 (dS (O 0) 1 z1)) g ln (if un = 8 then 8 else un + 1) ((nx + 1) % 8) pl f0 f1 f2) ++ REF T b (if rg z1 1 14 then va_up (rKeep (yS y 3 0)) 1 (va_up (y 1) 1 z1) else yS y 3 1) w) H := hP
    have hD : va_D A ((OUT T ob (vp_updL fo 0 (((O 0) 0 1).toInt64)) :: WIN T v B (va_up (va_up O (3 + nx) (O 0)) 0 (dS (O 0) 1 z1)) g ln (if un = 8 then 8 else un + 1) ((nx + 1) % 8) pl f0 f1 f2) ++ REF T b (if rg z1 1 14 then va_up (rKeep (yS y 3 0)) 1 (va_up (y 1) 1 z1) else yS y 3 1) w) := hD
    refine lv_aload_n hx hb dL_law_2788 rfl (lv_at hl 5 rfl) ?_
    refine lv_iconst (v := 0) hx hb dL_law_2789 (by decide) ?_
    refine laldO hx hb hK hP dL_law_2790 ?_
    refine lv_iload hx hb dL_law_2791 (lv_at hl 0 rfl) ?_
    refine lv_i2l (v := (if rg z1 1 14 then y 1 1 else 0).toInt64) hx hb dL_law_2793 rfl ?_
    refine W.lcmp hx hb dL_law_2794 ?_
    refine lv_if_eq (tgt := 2800) hx hb dL_law_2795 (by decide) (fun _ => ?_) (fun c1 => absurd ((lg_cmp_eq _ _).mpr eV) c1)
    refine lv_goto (tgt := 3239) hx hb dL_law_2800 (by decide) ?_
    refine W.widen (k := cells + 5) (n := slots + 30) (by omega) (by omega) ?_
    have hP : va_P D vwCl ((OUT T ob (vp_updL fo 0 (((O 0) 0 1).toInt64)) :: WIN T v B (va_up (va_up O (3 + nx) (O 0)) 0 (dS (O 0) 1 z1)) g ln (if un = 8 then 8 else un + 1) ((nx + 1) % 8) pl f0 f1 f2) ++ REF T b (if rg z1 1 14 then va_up (rKeep (yS y 3 0)) 1 (va_up (y 1) 1 z1) else yS y 3 1) w) H := hP
    have hD : va_D A ((OUT T ob (vp_updL fo 0 (((O 0) 0 1).toInt64)) :: WIN T v B (va_up (va_up O (3 + nx) (O 0)) 0 (dS (O 0) 1 z1)) g ln (if un = 8 then 8 else un + 1) ((nx + 1) % 8) pl f0 f1 f2) ++ REF T b (if rg z1 1 14 then va_up (rKeep (yS y 3 0)) 1 (va_up (y 1) 1 z1) else yS y 3 1) w) := hD
    exact kk _ _ _ ⟨(va_up (va_up O (3 + nx) (O 0)) 0 (dS (O 0) 1 z1)), g, ln, (if un = 8 then 8 else un + 1), ((nx + 1) % 8), pl, f0, f1, f2, (if rg z1 1 14 then va_up (rKeep (yS y 3 0)) 1 (va_up (y 1) 1 z1) else yS y 3 1), w, (vp_updL fo 0 (((O 0) 0 1).toInt64)), hP, hD, hS, hG1, lv_sub hl [2, 3, 4, 5, 6] rfl⟩
  | some E =>
    have hG1 := st.s
    refine lv_iload hx hb dL_law_2783 (lv_at hl 1 rfl) ?_
    refine lv_if_ne (tgt := 2800) hx hb dL_law_2785 (by decide) (fun _ => ?_) (fun c1 => absurd c1 kC_some)
    refine lv_goto (tgt := 3239) hx hb dL_law_2800 (by decide) ?_
    refine W.widen (k := cells + 5) (n := slots + 30) (by omega) (by omega) ?_
    have hP : va_P D vwCl ((OUT T ob fo :: WIN T v B O g ln un nx pl f0 f1 f2) ++ REF T b (if rg z1 1 14 then va_up (rKeep (yS y 3 0)) 1 (va_up (y 1) 1 z1) else yS y 3 1) w) H := hP
    have hD : va_D A ((OUT T ob fo :: WIN T v B O g ln un nx pl f0 f1 f2) ++ REF T b (if rg z1 1 14 then va_up (rKeep (yS y 3 0)) 1 (va_up (y 1) 1 z1) else yS y 3 1) w) := hD
    exact kk _ _ _ ⟨O, g, ln, un, nx, pl, f0, f1, f2, (if rg z1 1 14 then va_up (rKeep (yS y 3 0)) 1 (va_up (y 1) 1 z1) else yS y 3 1), w, fo, hP, hD, hS, hG1, lv_sub hl [2, 3, 4, 5, 6] rfl⟩

set_option maxHeartbeats 4000000 in
set_option maxRecDepth 100000 in
theorem arm_56 (X : LCX p l s m args c D T aK aV A sc L xs) {i : Nat} (hi : i + 6 ≤ L) {H : Heap} {locs : List Loc} {ls : Array Slot} {cells slots : Nat} (hcs : cells + 5 ≤ room_1.cells ∧ slots + 30 ≤ room_1.slots) (h : LST s D T A sc v B b ob i H locs ls) (kk : ∀ (H1 : Heap) (locs1 : List Loc) (ls1 : Array Slot), LST s D T A sc v B b ob i H1 locs1 ls1 → W p l e room_1 s m args below meth c H1 locs1 (cells + 5) (slots + 30) Q (F0 m 3239 ls1 [])) : W p l e room_1 s m args below meth c H locs cells slots Q (F0 m 2803 ls []) := by
  obtain ⟨hl9, hx, hb, hml, hown, hts, hX, hsc, hscA, hA, hC, hN, hK, hL⟩ := X
  obtain ⟨O, g, ln, un, nx, pl, f0, f1, f2, y, w, fo, hP, hD, hS, hG, hl⟩ := h
  obtain ⟨N, K, C, nt, hn, h9⟩ := id hG.1
  obtain ⟨z1, hz1⟩ : ∃ z, xs (i + 1) = z := ⟨_, rfl⟩
  refine lv_aload_n hx hb dL_law_2803 rfl (lv_at hl 1 rfl) ?_
  refine lv_aload_n hx hb dL_law_2804 rfl (lv_at hl 0 rfl) ?_
  refine lv_iload hx hb dL_law_2805 (lv_at hl 4 rfl) ?_
  refine lv_iconst (v := 1) hx hb dL_law_2807 (by decide) ?_
  refine lv_iadd hx hb dL_law_2808 ?_
  refine endI (r := nI (i + 1)) (nI_add i 1) ?_
  refine sldN hx hb hX hsc hscA hS hz1 (by omega) hL dL_law_2809 ?_
  refine lv_aload_n hx hb dL_law_2810 rfl (lv_at hl 3 rfl) ?_
  refine wlSi (As := [.ref (v 0), .int z1, .ref ob]) (rest := []) ⟨hx, hb, hml, hown, hts⟩ (c_L_setGloomLimit l hl9 D T aK aV v B O g ln un nx pl f0 f1 f2 ob fo z1 N K C nt hn.oi hG.2.1.2.1 hG.2.1.2.2.1 _) (vx_cwSW 3 hts gl_L_setGloomLimit rfl rfl rfl (by decide +kernel) ⟨Nat.le_of_ble_eq_true rfl, Nat.le_of_ble_eq_true rfl⟩) (Foc.lft _ _ _) hC hN hK hP hD hS hA rfl hl.1 rfl (Nat.le_of_ble_eq_true rfl) ⟨by omega, by omega⟩ dL_law_2811 (fun H locs hP hD hS => ?_)
  refine lv_istore (lv' := [(5, .int (kC "java/lang/IllegalArgumentException" (chkB (rg z1 0 13) "java/lang/IllegalArgumentException"))), (0, .ref sc), (1, .ref (v 0)), (2, .ref (b 0)), (3, .ref ob), (4, .int (nI i))]) hx hb dL_law_2814 hl (by decide) rfl (fun ls hl => ?_)
  refine lv_aload_n hx hb dL_law_2816 rfl (lv_at hl 3 rfl) ?_
  refine lv_aload_n hx hb dL_law_2817 rfl (lv_at hl 1 rfl) ?_
  refine lv_iload hx hb dL_law_2818 (lv_at hl 5 rfl) ?_
  refine lv_iconst (v := 1) hx hb dL_law_2820 (by decide) ?_
  refine lv_iadd hx hb dL_law_2821 ?_
  refine endI (r := nI (i + 1)) (nI_add i 1) ?_
  refine sldN hx hb hX hsc hscA hS hz1 (by omega) hL dL_law_2822 ?_
  refine wrVi (As := [.int z1]) (rest := []) ⟨hx, hb, hml, hown, hts⟩ (c_X10_setGloomLimit l D T b y w z1 un hG.2.1.1 hG.2.1.2.1 _) (cwV 1 hts gl_X10_setGloomLimit rfl rfl rfl (by decide +kernel) ⟨Nat.le_of_ble_eq_true rfl, Nat.le_of_ble_eq_true rfl⟩) (Foc.rgt _ _ _) hK hP hD hS hA 0 rfl rfl rfl hl.1 rfl (Nat.le_of_ble_eq_true rfl) ⟨by omega, by omega⟩ dL_law_2823 (fun H locs hP hD hS => ?_)
  refine lv_istore (lv' := [(6, .int (if rg z1 0 13 then y 1 2 else 0)), (5, .int (kC "java/lang/IllegalArgumentException" (chkB (rg z1 0 13) "java/lang/IllegalArgumentException"))), (0, .ref sc), (1, .ref (v 0)), (2, .ref (b 0)), (3, .ref ob), (4, .int (nI i))]) hx hb dL_law_2826 hl (by decide) rfl (fun ls hl => ?_)
  refine lv_aload_n hx hb dL_law_2828 rfl (lv_at hl 4 rfl) ?_
  refine rdV (As := []) (rest := []) ⟨hx, hb, hml, hown, hts⟩ (c_X10_thrown l D T b (if rg z1 0 13 then va_up (rKeep (yS y 3 0)) 1 (va_up (y 1) 2 z1) else yS y 3 1) w) (cwV 0 hts gl_X10_thrown rfl rfl rfl (by decide +kernel) ⟨Nat.le_of_ble_eq_true rfl, Nat.le_of_ble_eq_true rfl⟩) hK ((Foc.rgt _ _ []).subP hP) 0 rfl rfl rfl hl.1 rfl (Nat.le_of_ble_eq_true rfl) ⟨by omega, by omega⟩ dL_law_2829 ?_
  refine lv_iload hx hb dL_law_2832 (lv_at hl 1 rfl) ?_
  have st := st_setGloomLimit hG hn h9 z1
  have hk := st.code
  refine lv_icmp_eq (tgt := 2839) hx hb dL_law_2834 (by decide) (fun _ => ?_) (fun c1 => absurd hk c1)
  generalize hcd : (chkB (rg z1 0 13) "java/lang/IllegalArgumentException") = cd at st hP hD hl
  cases cd with
  | none =>
    obtain ⟨eV, hG1⟩ := st.n
    refine lv_iload hx hb dL_law_2839 (lv_at hl 1 rfl) ?_
    refine lv_if_ne (tgt := 2856) hx hb dL_law_2841 (by decide) (fun c1 => absurd rfl c1) (fun _ => ?_)
    have hP : va_P D vwCl ((OUT T ob (vp_updL fo 0 (((O 0) 0 2).toInt64)) :: WIN T v B (va_up (va_up O (3 + nx) (O 0)) 0 (dS (O 0) 2 z1)) g ln (if un = 8 then 8 else un + 1) ((nx + 1) % 8) pl f0 f1 f2) ++ REF T b (if rg z1 0 13 then va_up (rKeep (yS y 3 0)) 1 (va_up (y 1) 2 z1) else yS y 3 1) w) H := hP
    have hD : va_D A ((OUT T ob (vp_updL fo 0 (((O 0) 0 2).toInt64)) :: WIN T v B (va_up (va_up O (3 + nx) (O 0)) 0 (dS (O 0) 2 z1)) g ln (if un = 8 then 8 else un + 1) ((nx + 1) % 8) pl f0 f1 f2) ++ REF T b (if rg z1 0 13 then va_up (rKeep (yS y 3 0)) 1 (va_up (y 1) 2 z1) else yS y 3 1) w) := hD
    refine lv_aload_n hx hb dL_law_2844 rfl (lv_at hl 5 rfl) ?_
    refine lv_iconst (v := 0) hx hb dL_law_2845 (by decide) ?_
    refine laldO hx hb hK hP dL_law_2846 ?_
    refine lv_iload hx hb dL_law_2847 (lv_at hl 0 rfl) ?_
    refine lv_i2l (v := (if rg z1 0 13 then y 1 2 else 0).toInt64) hx hb dL_law_2849 rfl ?_
    refine W.lcmp hx hb dL_law_2850 ?_
    refine lv_if_eq (tgt := 2856) hx hb dL_law_2851 (by decide) (fun _ => ?_) (fun c1 => absurd ((lg_cmp_eq _ _).mpr eV) c1)
    refine lv_goto (tgt := 3239) hx hb dL_law_2856 (by decide) ?_
    refine W.widen (k := cells + 5) (n := slots + 30) (by omega) (by omega) ?_
    have hP : va_P D vwCl ((OUT T ob (vp_updL fo 0 (((O 0) 0 2).toInt64)) :: WIN T v B (va_up (va_up O (3 + nx) (O 0)) 0 (dS (O 0) 2 z1)) g ln (if un = 8 then 8 else un + 1) ((nx + 1) % 8) pl f0 f1 f2) ++ REF T b (if rg z1 0 13 then va_up (rKeep (yS y 3 0)) 1 (va_up (y 1) 2 z1) else yS y 3 1) w) H := hP
    have hD : va_D A ((OUT T ob (vp_updL fo 0 (((O 0) 0 2).toInt64)) :: WIN T v B (va_up (va_up O (3 + nx) (O 0)) 0 (dS (O 0) 2 z1)) g ln (if un = 8 then 8 else un + 1) ((nx + 1) % 8) pl f0 f1 f2) ++ REF T b (if rg z1 0 13 then va_up (rKeep (yS y 3 0)) 1 (va_up (y 1) 2 z1) else yS y 3 1) w) := hD
    exact kk _ _ _ ⟨(va_up (va_up O (3 + nx) (O 0)) 0 (dS (O 0) 2 z1)), g, ln, (if un = 8 then 8 else un + 1), ((nx + 1) % 8), pl, f0, f1, f2, (if rg z1 0 13 then va_up (rKeep (yS y 3 0)) 1 (va_up (y 1) 2 z1) else yS y 3 1), w, (vp_updL fo 0 (((O 0) 0 2).toInt64)), hP, hD, hS, hG1, lv_sub hl [2, 3, 4, 5, 6] rfl⟩
  | some E =>
    have hG1 := st.s
    refine lv_iload hx hb dL_law_2839 (lv_at hl 1 rfl) ?_
    refine lv_if_ne (tgt := 2856) hx hb dL_law_2841 (by decide) (fun _ => ?_) (fun c1 => absurd c1 kC_some)
    refine lv_goto (tgt := 3239) hx hb dL_law_2856 (by decide) ?_
    refine W.widen (k := cells + 5) (n := slots + 30) (by omega) (by omega) ?_
    have hP : va_P D vwCl ((OUT T ob fo :: WIN T v B O g ln un nx pl f0 f1 f2) ++ REF T b (if rg z1 0 13 then va_up (rKeep (yS y 3 0)) 1 (va_up (y 1) 2 z1) else yS y 3 1) w) H := hP
    have hD : va_D A ((OUT T ob fo :: WIN T v B O g ln un nx pl f0 f1 f2) ++ REF T b (if rg z1 0 13 then va_up (rKeep (yS y 3 0)) 1 (va_up (y 1) 2 z1) else yS y 3 1) w) := hD
    exact kk _ _ _ ⟨O, g, ln, un, nx, pl, f0, f1, f2, (if rg z1 0 13 then va_up (rKeep (yS y 3 0)) 1 (va_up (y 1) 2 z1) else yS y 3 1), w, fo, hP, hD, hS, hG1, lv_sub hl [2, 3, 4, 5, 6] rfl⟩

set_option maxHeartbeats 4000000 in
set_option maxRecDepth 100000 in
theorem arm_57 (X : LCX p l s m args c D T aK aV A sc L xs) {i : Nat} (hi : i + 6 ≤ L) {H : Heap} {locs : List Loc} {ls : Array Slot} {cells slots : Nat} (hcs : cells + 5 ≤ room_1.cells ∧ slots + 30 ≤ room_1.slots) (h : LST s D T A sc v B b ob i H locs ls) (kk : ∀ (H1 : Heap) (locs1 : List Loc) (ls1 : Array Slot), LST s D T A sc v B b ob i H1 locs1 ls1 → W p l e room_1 s m args below meth c H1 locs1 (cells + 5) (slots + 30) Q (F0 m 3239 ls1 [])) : W p l e room_1 s m args below meth c H locs cells slots Q (F0 m 2859 ls []) := by
  obtain ⟨hl9, hx, hb, hml, hown, hts, hX, hsc, hscA, hA, hC, hN, hK, hL⟩ := X
  obtain ⟨O, g, ln, un, nx, pl, f0, f1, f2, y, w, fo, hP, hD, hS, hG, hl⟩ := h
  obtain ⟨N, K, C, nt, hn, h9⟩ := id hG.1
  obtain ⟨z1, hz1⟩ : ∃ z, xs (i + 1) = z := ⟨_, rfl⟩
  refine lv_aload_n hx hb dL_law_2859 rfl (lv_at hl 1 rfl) ?_
  refine lv_aload_n hx hb dL_law_2860 rfl (lv_at hl 0 rfl) ?_
  refine lv_iload hx hb dL_law_2861 (lv_at hl 4 rfl) ?_
  refine lv_iconst (v := 1) hx hb dL_law_2863 (by decide) ?_
  refine lv_iadd hx hb dL_law_2864 ?_
  refine endI (r := nI (i + 1)) (nI_add i 1) ?_
  refine sldN hx hb hX hsc hscA hS hz1 (by omega) hL dL_law_2865 ?_
  refine lv_aload_n hx hb dL_law_2866 rfl (lv_at hl 3 rfl) ?_
  refine wlSi (As := [.ref (v 0), .int z1, .ref ob]) (rest := []) ⟨hx, hb, hml, hown, hts⟩ (c_L_setTideLimit l hl9 D T aK aV v B O g ln un nx pl f0 f1 f2 ob fo z1 N K C nt hn.oi hG.2.1.2.1 hG.2.1.2.2.1 _) (vx_cwSW 3 hts gl_L_setTideLimit rfl rfl rfl (by decide +kernel) ⟨Nat.le_of_ble_eq_true rfl, Nat.le_of_ble_eq_true rfl⟩) (Foc.lft _ _ _) hC hN hK hP hD hS hA rfl hl.1 rfl (Nat.le_of_ble_eq_true rfl) ⟨by omega, by omega⟩ dL_law_2867 (fun H locs hP hD hS => ?_)
  refine lv_istore (lv' := [(5, .int (kC "java/lang/IllegalArgumentException" (chkB (rg z1 0 7) "java/lang/IllegalArgumentException"))), (0, .ref sc), (1, .ref (v 0)), (2, .ref (b 0)), (3, .ref ob), (4, .int (nI i))]) hx hb dL_law_2870 hl (by decide) rfl (fun ls hl => ?_)
  refine lv_aload_n hx hb dL_law_2872 rfl (lv_at hl 3 rfl) ?_
  refine lv_aload_n hx hb dL_law_2873 rfl (lv_at hl 1 rfl) ?_
  refine lv_iload hx hb dL_law_2874 (lv_at hl 5 rfl) ?_
  refine lv_iconst (v := 1) hx hb dL_law_2876 (by decide) ?_
  refine lv_iadd hx hb dL_law_2877 ?_
  refine endI (r := nI (i + 1)) (nI_add i 1) ?_
  refine sldN hx hb hX hsc hscA hS hz1 (by omega) hL dL_law_2878 ?_
  refine wrVi (As := [.int z1]) (rest := []) ⟨hx, hb, hml, hown, hts⟩ (c_X10_setTideLimit l D T b y w z1 un hG.2.1.1 hG.2.1.2.1 _) (cwV 1 hts gl_X10_setTideLimit rfl rfl rfl (by decide +kernel) ⟨Nat.le_of_ble_eq_true rfl, Nat.le_of_ble_eq_true rfl⟩) (Foc.rgt _ _ _) hK hP hD hS hA 0 rfl rfl rfl hl.1 rfl (Nat.le_of_ble_eq_true rfl) ⟨by omega, by omega⟩ dL_law_2879 (fun H locs hP hD hS => ?_)
  refine lv_istore (lv' := [(6, .int (if rg z1 0 7 then y 1 3 else 0)), (5, .int (kC "java/lang/IllegalArgumentException" (chkB (rg z1 0 7) "java/lang/IllegalArgumentException"))), (0, .ref sc), (1, .ref (v 0)), (2, .ref (b 0)), (3, .ref ob), (4, .int (nI i))]) hx hb dL_law_2882 hl (by decide) rfl (fun ls hl => ?_)
  refine lv_aload_n hx hb dL_law_2884 rfl (lv_at hl 4 rfl) ?_
  refine rdV (As := []) (rest := []) ⟨hx, hb, hml, hown, hts⟩ (c_X10_thrown l D T b (if rg z1 0 7 then va_up (rKeep (yS y 3 0)) 1 (va_up (y 1) 3 z1) else yS y 3 1) w) (cwV 0 hts gl_X10_thrown rfl rfl rfl (by decide +kernel) ⟨Nat.le_of_ble_eq_true rfl, Nat.le_of_ble_eq_true rfl⟩) hK ((Foc.rgt _ _ []).subP hP) 0 rfl rfl rfl hl.1 rfl (Nat.le_of_ble_eq_true rfl) ⟨by omega, by omega⟩ dL_law_2885 ?_
  refine lv_iload hx hb dL_law_2888 (lv_at hl 1 rfl) ?_
  have st := st_setTideLimit hG hn h9 z1
  have hk := st.code
  refine lv_icmp_eq (tgt := 2895) hx hb dL_law_2890 (by decide) (fun _ => ?_) (fun c1 => absurd hk c1)
  generalize hcd : (chkB (rg z1 0 7) "java/lang/IllegalArgumentException") = cd at st hP hD hl
  cases cd with
  | none =>
    obtain ⟨eV, hG1⟩ := st.n
    refine lv_iload hx hb dL_law_2895 (lv_at hl 1 rfl) ?_
    refine lv_if_ne (tgt := 2912) hx hb dL_law_2897 (by decide) (fun c1 => absurd rfl c1) (fun _ => ?_)
    have hP : va_P D vwCl ((OUT T ob (vp_updL fo 0 (((O 0) 0 3).toInt64)) :: WIN T v B (va_up (va_up O (3 + nx) (O 0)) 0 (dS (O 0) 3 z1)) g ln (if un = 8 then 8 else un + 1) ((nx + 1) % 8) pl f0 f1 f2) ++ REF T b (if rg z1 0 7 then va_up (rKeep (yS y 3 0)) 1 (va_up (y 1) 3 z1) else yS y 3 1) w) H := hP
    have hD : va_D A ((OUT T ob (vp_updL fo 0 (((O 0) 0 3).toInt64)) :: WIN T v B (va_up (va_up O (3 + nx) (O 0)) 0 (dS (O 0) 3 z1)) g ln (if un = 8 then 8 else un + 1) ((nx + 1) % 8) pl f0 f1 f2) ++ REF T b (if rg z1 0 7 then va_up (rKeep (yS y 3 0)) 1 (va_up (y 1) 3 z1) else yS y 3 1) w) := hD
    refine lv_aload_n hx hb dL_law_2900 rfl (lv_at hl 5 rfl) ?_
    refine lv_iconst (v := 0) hx hb dL_law_2901 (by decide) ?_
    refine laldO hx hb hK hP dL_law_2902 ?_
    refine lv_iload hx hb dL_law_2903 (lv_at hl 0 rfl) ?_
    refine lv_i2l (v := (if rg z1 0 7 then y 1 3 else 0).toInt64) hx hb dL_law_2905 rfl ?_
    refine W.lcmp hx hb dL_law_2906 ?_
    refine lv_if_eq (tgt := 2912) hx hb dL_law_2907 (by decide) (fun _ => ?_) (fun c1 => absurd ((lg_cmp_eq _ _).mpr eV) c1)
    refine lv_goto (tgt := 3239) hx hb dL_law_2912 (by decide) ?_
    refine W.widen (k := cells + 5) (n := slots + 30) (by omega) (by omega) ?_
    have hP : va_P D vwCl ((OUT T ob (vp_updL fo 0 (((O 0) 0 3).toInt64)) :: WIN T v B (va_up (va_up O (3 + nx) (O 0)) 0 (dS (O 0) 3 z1)) g ln (if un = 8 then 8 else un + 1) ((nx + 1) % 8) pl f0 f1 f2) ++ REF T b (if rg z1 0 7 then va_up (rKeep (yS y 3 0)) 1 (va_up (y 1) 3 z1) else yS y 3 1) w) H := hP
    have hD : va_D A ((OUT T ob (vp_updL fo 0 (((O 0) 0 3).toInt64)) :: WIN T v B (va_up (va_up O (3 + nx) (O 0)) 0 (dS (O 0) 3 z1)) g ln (if un = 8 then 8 else un + 1) ((nx + 1) % 8) pl f0 f1 f2) ++ REF T b (if rg z1 0 7 then va_up (rKeep (yS y 3 0)) 1 (va_up (y 1) 3 z1) else yS y 3 1) w) := hD
    exact kk _ _ _ ⟨(va_up (va_up O (3 + nx) (O 0)) 0 (dS (O 0) 3 z1)), g, ln, (if un = 8 then 8 else un + 1), ((nx + 1) % 8), pl, f0, f1, f2, (if rg z1 0 7 then va_up (rKeep (yS y 3 0)) 1 (va_up (y 1) 3 z1) else yS y 3 1), w, (vp_updL fo 0 (((O 0) 0 3).toInt64)), hP, hD, hS, hG1, lv_sub hl [2, 3, 4, 5, 6] rfl⟩
  | some E =>
    have hG1 := st.s
    refine lv_iload hx hb dL_law_2895 (lv_at hl 1 rfl) ?_
    refine lv_if_ne (tgt := 2912) hx hb dL_law_2897 (by decide) (fun _ => ?_) (fun c1 => absurd c1 kC_some)
    refine lv_goto (tgt := 3239) hx hb dL_law_2912 (by decide) ?_
    refine W.widen (k := cells + 5) (n := slots + 30) (by omega) (by omega) ?_
    have hP : va_P D vwCl ((OUT T ob fo :: WIN T v B O g ln un nx pl f0 f1 f2) ++ REF T b (if rg z1 0 7 then va_up (rKeep (yS y 3 0)) 1 (va_up (y 1) 3 z1) else yS y 3 1) w) H := hP
    have hD : va_D A ((OUT T ob fo :: WIN T v B O g ln un nx pl f0 f1 f2) ++ REF T b (if rg z1 0 7 then va_up (rKeep (yS y 3 0)) 1 (va_up (y 1) 3 z1) else yS y 3 1) w) := hD
    exact kk _ _ _ ⟨O, g, ln, un, nx, pl, f0, f1, f2, (if rg z1 0 7 then va_up (rKeep (yS y 3 0)) 1 (va_up (y 1) 3 z1) else yS y 3 1), w, fo, hP, hD, hS, hG1, lv_sub hl [2, 3, 4, 5, 6] rfl⟩

set_option maxHeartbeats 4000000 in
set_option maxRecDepth 100000 in
theorem arm_58 (X : LCX p l s m args c D T aK aV A sc L xs) {i : Nat} (hi : i + 6 ≤ L) {H : Heap} {locs : List Loc} {ls : Array Slot} {cells slots : Nat} (hcs : cells + 5 ≤ room_1.cells ∧ slots + 30 ≤ room_1.slots) (h : LST s D T A sc v B b ob i H locs ls) (kk : ∀ (H1 : Heap) (locs1 : List Loc) (ls1 : Array Slot), LST s D T A sc v B b ob i H1 locs1 ls1 → W p l e room_1 s m args below meth c H1 locs1 (cells + 5) (slots + 30) Q (F0 m 3239 ls1 [])) : W p l e room_1 s m args below meth c H locs cells slots Q (F0 m 2915 ls []) := by
  obtain ⟨hl9, hx, hb, hml, hown, hts, hX, hsc, hscA, hA, hC, hN, hK, hL⟩ := X
  obtain ⟨O, g, ln, un, nx, pl, f0, f1, f2, y, w, fo, hP, hD, hS, hG, hl⟩ := h
  obtain ⟨N, K, C, nt, hn, h9⟩ := id hG.1
  obtain ⟨z1, hz1⟩ : ∃ z, xs (i + 1) = z := ⟨_, rfl⟩
  refine lv_aload_n hx hb dL_law_2915 rfl (lv_at hl 1 rfl) ?_
  refine lv_aload_n hx hb dL_law_2916 rfl (lv_at hl 0 rfl) ?_
  refine lv_iload hx hb dL_law_2917 (lv_at hl 4 rfl) ?_
  refine lv_iconst (v := 1) hx hb dL_law_2919 (by decide) ?_
  refine lv_iadd hx hb dL_law_2920 ?_
  refine endI (r := nI (i + 1)) (nI_add i 1) ?_
  refine sldN hx hb hX hsc hscA hS hz1 (by omega) hL dL_law_2921 ?_
  refine lv_aload_n hx hb dL_law_2922 rfl (lv_at hl 3 rfl) ?_
  refine wlSi (As := [.ref (v 0), .int z1, .ref ob]) (rest := []) ⟨hx, hb, hml, hown, hts⟩ (c_L_endNights l hl9 D T aK aV v B O g ln un nx pl f0 f1 f2 ob fo z1 N K C nt hn.oi hG.2.1.2.1 hG.2.1.2.2.1 _) (vx_cwSW 3 hts gl_L_endNights rfl rfl rfl (by decide +kernel) ⟨Nat.le_of_ble_eq_true rfl, Nat.le_of_ble_eq_true rfl⟩) (Foc.lft _ _ _) hC hN hK hP hD hS hA rfl hl.1 rfl (Nat.le_of_ble_eq_true rfl) ⟨by omega, by omega⟩ dL_law_2923 (fun H locs hP hD hS => ?_)
  refine lv_istore (lv' := [(5, .int (kC "java/lang/IllegalArgumentException" (orE (chkB (rg z1 1 60) "java/lang/IllegalArgumentException") (chkB (decide (nt + z1.toNatClampNeg ≤ 999)) "java/lang/IllegalStateException")))), (0, .ref sc), (1, .ref (v 0)), (2, .ref (b 0)), (3, .ref ob), (4, .int (nI i))]) hx hb dL_law_2926 hl (by decide) rfl (fun ls hl => ?_)
  refine lv_aload_n hx hb dL_law_2928 rfl (lv_at hl 3 rfl) ?_
  refine lv_aload_n hx hb dL_law_2929 rfl (lv_at hl 1 rfl) ?_
  refine lv_iload hx hb dL_law_2930 (lv_at hl 5 rfl) ?_
  refine lv_iconst (v := 1) hx hb dL_law_2932 (by decide) ?_
  refine lv_iadd hx hb dL_law_2933 ?_
  refine endI (r := nI (i + 1)) (nI_add i 1) ?_
  refine sldN hx hb hX hsc hscA hS hz1 (by omega) hL dL_law_2934 ?_
  refine wrVi (As := [.int z1]) (rest := []) ⟨hx, hb, hml, hown, hts⟩ (c_X10_endNights l D T b y w z1 N K C nt un hn.ri hG.2.1.1 hG.2.1.2.1 _) (cwV 1 hts gl_X10_endNights rfl rfl rfl (by decide +kernel) ⟨Nat.le_of_ble_eq_true rfl, Nat.le_of_ble_eq_true rfl⟩) (Foc.rgt _ _ _) hK hP hD hS hA 0 rfl rfl rfl hl.1 rfl (Nat.le_of_ble_eq_true rfl) ⟨by omega, by omega⟩ dL_law_2935 (fun H locs hP hD hS => ?_)
  refine lv_istore (lv' := [(6, .int (if rg z1 1 60 then (if nt + z1.toNatClampNeg ≤ 999 then (iter (endsI N K C nt) z1.toNatClampNeg 0 (0, y 1)).1 else 0) else 0)), (5, .int (kC "java/lang/IllegalArgumentException" (orE (chkB (rg z1 1 60) "java/lang/IllegalArgumentException") (chkB (decide (nt + z1.toNatClampNeg ≤ 999)) "java/lang/IllegalStateException")))), (0, .ref sc), (1, .ref (v 0)), (2, .ref (b 0)), (3, .ref ob), (4, .int (nI i))]) hx hb dL_law_2938 hl (by decide) rfl (fun ls hl => ?_)
  refine lv_aload_n hx hb dL_law_2940 rfl (lv_at hl 4 rfl) ?_
  refine rdV (As := []) (rest := []) ⟨hx, hb, hml, hown, hts⟩ (c_X10_thrown l D T b (if rg z1 1 60 then (if nt + z1.toNatClampNeg ≤ 999 then va_up (rKeep (yS y 3 0)) 1 (iter (endsI N K C nt) z1.toNatClampNeg 0 (0, y 1)).2 else yS y 3 2) else yS y 3 1) w) (cwV 0 hts gl_X10_thrown rfl rfl rfl (by decide +kernel) ⟨Nat.le_of_ble_eq_true rfl, Nat.le_of_ble_eq_true rfl⟩) hK ((Foc.rgt _ _ []).subP hP) 0 rfl rfl rfl hl.1 rfl (Nat.le_of_ble_eq_true rfl) ⟨by omega, by omega⟩ dL_law_2941 ?_
  refine lv_iload hx hb dL_law_2944 (lv_at hl 1 rfl) ?_
  have st := st_endNights hG hn h9 z1
  have hk := st.code
  refine lv_icmp_eq (tgt := 2951) hx hb dL_law_2946 (by decide) (fun _ => ?_) (fun c1 => absurd hk c1)
  generalize hcd : (orE (chkB (rg z1 1 60) "java/lang/IllegalArgumentException") (chkB (decide (nt + z1.toNatClampNeg ≤ 999)) "java/lang/IllegalStateException")) = cd at st hP hD hl
  cases cd with
  | none =>
    obtain ⟨eV, hG1⟩ := st.n
    refine lv_iload hx hb dL_law_2951 (lv_at hl 1 rfl) ?_
    refine lv_if_ne (tgt := 2968) hx hb dL_law_2953 (by decide) (fun c1 => absurd rfl c1) (fun _ => ?_)
    have hP : va_P D vwCl ((OUT T ob (vp_updL fo 0 (((iter (endsC N K C nt) z1.toNatClampNeg 0 (0, O 0)).1).toInt64)) :: WIN T v B (va_up (va_up O (3 + nx) (O 0)) 0 ((iter (endsC N K C nt) z1.toNatClampNeg 0 (0, O 0)).2)) g ln (if un = 8 then 8 else un + 1) ((nx + 1) % 8) pl f0 f1 f2) ++ REF T b (if rg z1 1 60 then (if nt + z1.toNatClampNeg ≤ 999 then va_up (rKeep (yS y 3 0)) 1 (iter (endsI N K C nt) z1.toNatClampNeg 0 (0, y 1)).2 else yS y 3 2) else yS y 3 1) w) H := hP
    have hD : va_D A ((OUT T ob (vp_updL fo 0 (((iter (endsC N K C nt) z1.toNatClampNeg 0 (0, O 0)).1).toInt64)) :: WIN T v B (va_up (va_up O (3 + nx) (O 0)) 0 ((iter (endsC N K C nt) z1.toNatClampNeg 0 (0, O 0)).2)) g ln (if un = 8 then 8 else un + 1) ((nx + 1) % 8) pl f0 f1 f2) ++ REF T b (if rg z1 1 60 then (if nt + z1.toNatClampNeg ≤ 999 then va_up (rKeep (yS y 3 0)) 1 (iter (endsI N K C nt) z1.toNatClampNeg 0 (0, y 1)).2 else yS y 3 2) else yS y 3 1) w) := hD
    refine lv_aload_n hx hb dL_law_2956 rfl (lv_at hl 5 rfl) ?_
    refine lv_iconst (v := 0) hx hb dL_law_2957 (by decide) ?_
    refine laldO hx hb hK hP dL_law_2958 ?_
    refine lv_iload hx hb dL_law_2959 (lv_at hl 0 rfl) ?_
    refine lv_i2l (v := (if rg z1 1 60 then (if nt + z1.toNatClampNeg ≤ 999 then (iter (endsI N K C nt) z1.toNatClampNeg 0 (0, y 1)).1 else 0) else 0).toInt64) hx hb dL_law_2961 rfl ?_
    refine W.lcmp hx hb dL_law_2962 ?_
    refine lv_if_eq (tgt := 2968) hx hb dL_law_2963 (by decide) (fun _ => ?_) (fun c1 => absurd ((lg_cmp_eq _ _).mpr eV) c1)
    refine lv_goto (tgt := 3239) hx hb dL_law_2968 (by decide) ?_
    refine W.widen (k := cells + 5) (n := slots + 30) (by omega) (by omega) ?_
    have hP : va_P D vwCl ((OUT T ob (vp_updL fo 0 (((iter (endsC N K C nt) z1.toNatClampNeg 0 (0, O 0)).1).toInt64)) :: WIN T v B (va_up (va_up O (3 + nx) (O 0)) 0 ((iter (endsC N K C nt) z1.toNatClampNeg 0 (0, O 0)).2)) g ln (if un = 8 then 8 else un + 1) ((nx + 1) % 8) pl f0 f1 f2) ++ REF T b (if rg z1 1 60 then (if nt + z1.toNatClampNeg ≤ 999 then va_up (rKeep (yS y 3 0)) 1 (iter (endsI N K C nt) z1.toNatClampNeg 0 (0, y 1)).2 else yS y 3 2) else yS y 3 1) w) H := hP
    have hD : va_D A ((OUT T ob (vp_updL fo 0 (((iter (endsC N K C nt) z1.toNatClampNeg 0 (0, O 0)).1).toInt64)) :: WIN T v B (va_up (va_up O (3 + nx) (O 0)) 0 ((iter (endsC N K C nt) z1.toNatClampNeg 0 (0, O 0)).2)) g ln (if un = 8 then 8 else un + 1) ((nx + 1) % 8) pl f0 f1 f2) ++ REF T b (if rg z1 1 60 then (if nt + z1.toNatClampNeg ≤ 999 then va_up (rKeep (yS y 3 0)) 1 (iter (endsI N K C nt) z1.toNatClampNeg 0 (0, y 1)).2 else yS y 3 2) else yS y 3 1) w) := hD
    exact kk _ _ _ ⟨(va_up (va_up O (3 + nx) (O 0)) 0 ((iter (endsC N K C nt) z1.toNatClampNeg 0 (0, O 0)).2)), g, ln, (if un = 8 then 8 else un + 1), ((nx + 1) % 8), pl, f0, f1, f2, (if rg z1 1 60 then (if nt + z1.toNatClampNeg ≤ 999 then va_up (rKeep (yS y 3 0)) 1 (iter (endsI N K C nt) z1.toNatClampNeg 0 (0, y 1)).2 else yS y 3 2) else yS y 3 1), w, (vp_updL fo 0 (((iter (endsC N K C nt) z1.toNatClampNeg 0 (0, O 0)).1).toInt64)), hP, hD, hS, hG1, lv_sub hl [2, 3, 4, 5, 6] rfl⟩
  | some E =>
    have hG1 := st.s
    refine lv_iload hx hb dL_law_2951 (lv_at hl 1 rfl) ?_
    refine lv_if_ne (tgt := 2968) hx hb dL_law_2953 (by decide) (fun _ => ?_) (fun c1 => absurd c1 kC_some)
    refine lv_goto (tgt := 3239) hx hb dL_law_2968 (by decide) ?_
    refine W.widen (k := cells + 5) (n := slots + 30) (by omega) (by omega) ?_
    have hP : va_P D vwCl ((OUT T ob fo :: WIN T v B O g ln un nx pl f0 f1 f2) ++ REF T b (if rg z1 1 60 then (if nt + z1.toNatClampNeg ≤ 999 then va_up (rKeep (yS y 3 0)) 1 (iter (endsI N K C nt) z1.toNatClampNeg 0 (0, y 1)).2 else yS y 3 2) else yS y 3 1) w) H := hP
    have hD : va_D A ((OUT T ob fo :: WIN T v B O g ln un nx pl f0 f1 f2) ++ REF T b (if rg z1 1 60 then (if nt + z1.toNatClampNeg ≤ 999 then va_up (rKeep (yS y 3 0)) 1 (iter (endsI N K C nt) z1.toNatClampNeg 0 (0, y 1)).2 else yS y 3 2) else yS y 3 1) w) := hD
    exact kk _ _ _ ⟨O, g, ln, un, nx, pl, f0, f1, f2, (if rg z1 1 60 then (if nt + z1.toNatClampNeg ≤ 999 then va_up (rKeep (yS y 3 0)) 1 (iter (endsI N K C nt) z1.toNatClampNeg 0 (0, y 1)).2 else yS y 3 2) else yS y 3 1), w, fo, hP, hD, hS, hG1, lv_sub hl [2, 3, 4, 5, 6] rfl⟩

set_option maxHeartbeats 4000000 in
set_option maxRecDepth 100000 in
theorem arm_59 (X : LCX p l s m args c D T aK aV A sc L xs) {i : Nat} (hi : i + 6 ≤ L) {H : Heap} {locs : List Loc} {ls : Array Slot} {cells slots : Nat} (hcs : cells + 5 ≤ room_1.cells ∧ slots + 30 ≤ room_1.slots) (h : LST s D T A sc v B b ob i H locs ls) (kk : ∀ (H1 : Heap) (locs1 : List Loc) (ls1 : Array Slot), LST s D T A sc v B b ob i H1 locs1 ls1 → W p l e room_1 s m args below meth c H1 locs1 (cells + 5) (slots + 30) Q (F0 m 3239 ls1 [])) : W p l e room_1 s m args below meth c H locs cells slots Q (F0 m 2971 ls []) := by
  obtain ⟨hl9, hx, hb, hml, hown, hts, hX, hsc, hscA, hA, hC, hN, hK, hL⟩ := X
  obtain ⟨O, g, ln, un, nx, pl, f0, f1, f2, y, w, fo, hP, hD, hS, hG, hl⟩ := h
  obtain ⟨N, K, C, nt, hn, h9⟩ := id hG.1
  refine lv_aload_n hx hb dL_law_2971 rfl (lv_at hl 1 rfl) ?_
  refine lv_aload_n hx hb dL_law_2972 rfl (lv_at hl 3 rfl) ?_
  refine wlSi (As := [.ref (v 0), .ref ob]) (rest := []) ⟨hx, hb, hml, hown, hts⟩ (c_L_undo l hl9 D T aK aV v B O g ln un nx pl f0 f1 f2 ob fo hG.2.1.2.1 hG.2.1.2.2.1 _) (vx_cwSW 2 hts gl_L_undo rfl rfl rfl (by decide +kernel) ⟨Nat.le_of_ble_eq_true rfl, Nat.le_of_ble_eq_true rfl⟩) (Foc.lft _ _ _) hC hN hK hP hD hS hA rfl hl.1 rfl (Nat.le_of_ble_eq_true rfl) ⟨by omega, by omega⟩ dL_law_2973 (fun H locs hP hD hS => ?_)
  refine lv_istore (lv' := [(5, .int (kC "java/lang/IllegalStateException" (chkB (!decide (un = 0)) "java/lang/IllegalStateException"))), (0, .ref sc), (1, .ref (v 0)), (2, .ref (b 0)), (3, .ref ob), (4, .int (nI i))]) hx hb dL_law_2976 hl (by decide) rfl (fun ls hl => ?_)
  refine lv_aload_n hx hb dL_law_2978 rfl (lv_at hl 3 rfl) ?_
  refine wrVi (As := []) (rest := []) ⟨hx, hb, hml, hown, hts⟩ (c_X10_undo l D T b y w un hG.2.1.1 hG.2.1.2.1 _) (cwV 0 hts gl_X10_undo rfl rfl rfl (by decide +kernel) ⟨Nat.le_of_ble_eq_true rfl, Nat.le_of_ble_eq_true rfl⟩) (Foc.rgt _ _ _) hK hP hD hS hA 0 rfl rfl rfl hl.1 rfl (Nat.le_of_ble_eq_true rfl) ⟨by omega, by omega⟩ dL_law_2979 (fun H locs hP hD hS => ?_)
  refine lv_istore (lv' := [(6, .int (if un = 0 then 0 else nI (un - 1))), (5, .int (kC "java/lang/IllegalStateException" (chkB (!decide (un = 0)) "java/lang/IllegalStateException"))), (0, .ref sc), (1, .ref (v 0)), (2, .ref (b 0)), (3, .ref ob), (4, .int (nI i))]) hx hb dL_law_2982 hl (by decide) rfl (fun ls hl => ?_)
  refine lv_aload_n hx hb dL_law_2984 rfl (lv_at hl 4 rfl) ?_
  refine rdV (As := []) (rest := []) ⟨hx, hb, hml, hown, hts⟩ (c_X10_thrown l D T b (if un = 0 then yS y 3 1 else yS (yS (va_up y 1 (rLay (y 4) (202 * (un - 1)) 0 (y 1))) 3 0) 0 (nI (un - 1))) w) (cwV 0 hts gl_X10_thrown rfl rfl rfl (by decide +kernel) ⟨Nat.le_of_ble_eq_true rfl, Nat.le_of_ble_eq_true rfl⟩) hK ((Foc.rgt _ _ []).subP hP) 0 rfl rfl rfl hl.1 rfl (Nat.le_of_ble_eq_true rfl) ⟨by omega, by omega⟩ dL_law_2985 ?_
  refine lv_iload hx hb dL_law_2988 (lv_at hl 1 rfl) ?_
  have st := st_undo hG 
  have hk := st.code
  refine lv_icmp_eq (tgt := 2995) hx hb dL_law_2990 (by decide) (fun _ => ?_) (fun c1 => absurd hk c1)
  generalize hcd : (chkB (!decide (un = 0)) "java/lang/IllegalStateException") = cd at st hP hD hl
  cases cd with
  | none =>
    obtain ⟨eV, hG1⟩ := st.n
    refine lv_iload hx hb dL_law_2995 (lv_at hl 1 rfl) ?_
    refine lv_if_ne (tgt := 3012) hx hb dL_law_2997 (by decide) (fun c1 => absurd rfl c1) (fun _ => ?_)
    have hP : va_P D vwCl ((OUT T ob (vp_updL fo 0 ((nI (un - 1)).toInt64)) :: WIN T v B (va_up O 0 (O (3 + (nx + 7) % 8))) g ln (un - 1) ((nx + 7) % 8) pl f0 f1 f2) ++ REF T b (if un = 0 then yS y 3 1 else yS (yS (va_up y 1 (rLay (y 4) (202 * (un - 1)) 0 (y 1))) 3 0) 0 (nI (un - 1))) w) H := hP
    have hD : va_D A ((OUT T ob (vp_updL fo 0 ((nI (un - 1)).toInt64)) :: WIN T v B (va_up O 0 (O (3 + (nx + 7) % 8))) g ln (un - 1) ((nx + 7) % 8) pl f0 f1 f2) ++ REF T b (if un = 0 then yS y 3 1 else yS (yS (va_up y 1 (rLay (y 4) (202 * (un - 1)) 0 (y 1))) 3 0) 0 (nI (un - 1))) w) := hD
    refine lv_aload_n hx hb dL_law_3000 rfl (lv_at hl 5 rfl) ?_
    refine lv_iconst (v := 0) hx hb dL_law_3001 (by decide) ?_
    refine laldO hx hb hK hP dL_law_3002 ?_
    refine lv_iload hx hb dL_law_3003 (lv_at hl 0 rfl) ?_
    refine lv_i2l (v := (if un = 0 then 0 else nI (un - 1)).toInt64) hx hb dL_law_3005 rfl ?_
    refine W.lcmp hx hb dL_law_3006 ?_
    refine lv_if_eq (tgt := 3012) hx hb dL_law_3007 (by decide) (fun _ => ?_) (fun c1 => absurd ((lg_cmp_eq _ _).mpr eV) c1)
    refine lv_goto (tgt := 3239) hx hb dL_law_3012 (by decide) ?_
    refine W.widen (k := cells + 5) (n := slots + 30) (by omega) (by omega) ?_
    have hP : va_P D vwCl ((OUT T ob (vp_updL fo 0 ((nI (un - 1)).toInt64)) :: WIN T v B (va_up O 0 (O (3 + (nx + 7) % 8))) g ln (un - 1) ((nx + 7) % 8) pl f0 f1 f2) ++ REF T b (if un = 0 then yS y 3 1 else yS (yS (va_up y 1 (rLay (y 4) (202 * (un - 1)) 0 (y 1))) 3 0) 0 (nI (un - 1))) w) H := hP
    have hD : va_D A ((OUT T ob (vp_updL fo 0 ((nI (un - 1)).toInt64)) :: WIN T v B (va_up O 0 (O (3 + (nx + 7) % 8))) g ln (un - 1) ((nx + 7) % 8) pl f0 f1 f2) ++ REF T b (if un = 0 then yS y 3 1 else yS (yS (va_up y 1 (rLay (y 4) (202 * (un - 1)) 0 (y 1))) 3 0) 0 (nI (un - 1))) w) := hD
    exact kk _ _ _ ⟨(va_up O 0 (O (3 + (nx + 7) % 8))), g, ln, (un - 1), ((nx + 7) % 8), pl, f0, f1, f2, (if un = 0 then yS y 3 1 else yS (yS (va_up y 1 (rLay (y 4) (202 * (un - 1)) 0 (y 1))) 3 0) 0 (nI (un - 1))), w, (vp_updL fo 0 ((nI (un - 1)).toInt64)), hP, hD, hS, hG1, lv_sub hl [2, 3, 4, 5, 6] rfl⟩
  | some E =>
    have hG1 := st.s
    refine lv_iload hx hb dL_law_2995 (lv_at hl 1 rfl) ?_
    refine lv_if_ne (tgt := 3012) hx hb dL_law_2997 (by decide) (fun _ => ?_) (fun c1 => absurd c1 kC_some)
    refine lv_goto (tgt := 3239) hx hb dL_law_3012 (by decide) ?_
    refine W.widen (k := cells + 5) (n := slots + 30) (by omega) (by omega) ?_
    have hP : va_P D vwCl ((OUT T ob fo :: WIN T v B O g ln un nx pl f0 f1 f2) ++ REF T b (if un = 0 then yS y 3 1 else yS (yS (va_up y 1 (rLay (y 4) (202 * (un - 1)) 0 (y 1))) 3 0) 0 (nI (un - 1))) w) H := hP
    have hD : va_D A ((OUT T ob fo :: WIN T v B O g ln un nx pl f0 f1 f2) ++ REF T b (if un = 0 then yS y 3 1 else yS (yS (va_up y 1 (rLay (y 4) (202 * (un - 1)) 0 (y 1))) 3 0) 0 (nI (un - 1))) w) := hD
    exact kk _ _ _ ⟨O, g, ln, un, nx, pl, f0, f1, f2, (if un = 0 then yS y 3 1 else yS (yS (va_up y 1 (rLay (y 4) (202 * (un - 1)) 0 (y 1))) 3 0) 0 (nI (un - 1))), w, fo, hP, hD, hS, hG1, lv_sub hl [2, 3, 4, 5, 6] rfl⟩

set_option maxHeartbeats 4000000 in
set_option maxRecDepth 100000 in
theorem arm_60 (X : LCX p l s m args c D T aK aV A sc L xs) {i : Nat} (hi : i + 6 ≤ L) {H : Heap} {locs : List Loc} {ls : Array Slot} {cells slots : Nat} (hcs : cells + 5 ≤ room_1.cells ∧ slots + 30 ≤ room_1.slots) (h : LST s D T A sc v B b ob i H locs ls) (kk : ∀ (H1 : Heap) (locs1 : List Loc) (ls1 : Array Slot), LST s D T A sc v B b ob i H1 locs1 ls1 → W p l e room_1 s m args below meth c H1 locs1 (cells + 5) (slots + 30) Q (F0 m 3239 ls1 [])) : W p l e room_1 s m args below meth c H locs cells slots Q (F0 m 3015 ls []) := by
  obtain ⟨hl9, hx, hb, hml, hown, hts, hX, hsc, hscA, hA, hC, hN, hK, hL⟩ := X
  obtain ⟨O, g, ln, un, nx, pl, f0, f1, f2, y, w, fo, hP, hD, hS, hG, hl⟩ := h
  obtain ⟨N, K, C, nt, hn, h9⟩ := id hG.1
  obtain ⟨z1, hz1⟩ : ∃ z, xs (i + 1) = z := ⟨_, rfl⟩
  refine lv_aload_n hx hb dL_law_3015 rfl (lv_at hl 1 rfl) ?_
  refine lv_aload_n hx hb dL_law_3016 rfl (lv_at hl 0 rfl) ?_
  refine lv_iload hx hb dL_law_3017 (lv_at hl 4 rfl) ?_
  refine lv_iconst (v := 1) hx hb dL_law_3019 (by decide) ?_
  refine lv_iadd hx hb dL_law_3020 ?_
  refine endI (r := nI (i + 1)) (nI_add i 1) ?_
  refine sldN hx hb hX hsc hscA hS hz1 (by omega) hL dL_law_3021 ?_
  refine lv_aload_n hx hb dL_law_3022 rfl (lv_at hl 3 rfl) ?_
  refine wlSi (As := [.ref (v 0), .int z1, .ref ob]) (rest := []) ⟨hx, hb, hml, hown, hts⟩ (c_L_saveSnapshot l hl9 D T aK aV v B O g ln un nx pl f0 f1 f2 ob fo z1 _) (vx_cwSW 3 hts gl_L_saveSnapshot rfl rfl rfl (by decide +kernel) ⟨Nat.le_of_ble_eq_true rfl, Nat.le_of_ble_eq_true rfl⟩) (Foc.lft _ _ _) hC hN hK hP hD hS hA rfl hl.1 rfl (Nat.le_of_ble_eq_true rfl) ⟨by omega, by omega⟩ dL_law_3023 (fun H locs hP hD hS => ?_)
  refine lv_istore (lv' := [(5, .int (kC "java/lang/IndexOutOfBoundsException" (chkB (inN z1 2) "java/lang/IndexOutOfBoundsException"))), (0, .ref sc), (1, .ref (v 0)), (2, .ref (b 0)), (3, .ref ob), (4, .int (nI i))]) hx hb dL_law_3026 hl (by decide) rfl (fun ls hl => ?_)
  refine lv_aload_n hx hb dL_law_3028 rfl (lv_at hl 3 rfl) ?_
  refine lv_aload_n hx hb dL_law_3029 rfl (lv_at hl 1 rfl) ?_
  refine lv_iload hx hb dL_law_3030 (lv_at hl 5 rfl) ?_
  refine lv_iconst (v := 1) hx hb dL_law_3032 (by decide) ?_
  refine lv_iadd hx hb dL_law_3033 ?_
  refine endI (r := nI (i + 1)) (nI_add i 1) ?_
  refine sldN hx hb hX hsc hscA hS hz1 (by omega) hL dL_law_3034 ?_
  refine wrVi (As := [.int z1]) (rest := []) ⟨hx, hb, hml, hown, hts⟩ (c_X10_saveSnapshot l D T b y w z1 _) (cwV 1 hts gl_X10_saveSnapshot rfl rfl rfl (by decide +kernel) ⟨Nat.le_of_ble_eq_true rfl, Nat.le_of_ble_eq_true rfl⟩) (Foc.rgt _ _ _) hK hP hD hS hA 0 rfl rfl rfl hl.1 rfl (Nat.le_of_ble_eq_true rfl) ⟨by omega, by omega⟩ dL_law_3035 (fun H locs hP hD hS => ?_)
  refine lv_istore (lv' := [(6, .int (if rg z1 0 1 then y 1 0 else 0)), (5, .int (kC "java/lang/IndexOutOfBoundsException" (chkB (inN z1 2) "java/lang/IndexOutOfBoundsException"))), (0, .ref sc), (1, .ref (v 0)), (2, .ref (b 0)), (3, .ref ob), (4, .int (nI i))]) hx hb dL_law_3038 hl (by decide) rfl (fun ls hl => ?_)
  refine lv_aload_n hx hb dL_law_3040 rfl (lv_at hl 4 rfl) ?_
  refine rdV (As := []) (rest := []) ⟨hx, hb, hml, hown, hts⟩ (c_X10_thrown l D T b (if rg z1 0 1 then yS (va_up (va_up y 5 (rLay (y 1) 0 (202 * z1.toNatClampNeg) (y 5))) 6 (va_up (y 6) z1.toNatClampNeg 1)) 3 0 else yS y 3 1) w) (cwV 0 hts gl_X10_thrown rfl rfl rfl (by decide +kernel) ⟨Nat.le_of_ble_eq_true rfl, Nat.le_of_ble_eq_true rfl⟩) hK ((Foc.rgt _ _ []).subP hP) 0 rfl rfl rfl hl.1 rfl (Nat.le_of_ble_eq_true rfl) ⟨by omega, by omega⟩ dL_law_3041 ?_
  refine lv_iload hx hb dL_law_3044 (lv_at hl 1 rfl) ?_
  have st := st_saveSnapshot hG z1
  have hk := st.code
  refine lv_icmp_eq (tgt := 3051) hx hb dL_law_3046 (by decide) (fun _ => ?_) (fun c1 => absurd hk c1)
  generalize hcd : (chkB (inN z1 2) "java/lang/IndexOutOfBoundsException") = cd at st hP hD hl
  cases cd with
  | none =>
    obtain ⟨eV, hG1⟩ := st.n
    refine lv_iload hx hb dL_law_3051 (lv_at hl 1 rfl) ?_
    refine lv_if_ne (tgt := 3068) hx hb dL_law_3053 (by decide) (fun c1 => absurd rfl c1) (fun _ => ?_)
    have hP : va_P D vwCl ((OUT T ob (vp_updL fo 0 (((O 0) 0 0).toInt64)) :: WIN T v B (va_up O (11 + z1.toNatClampNeg) (O 0)) g ln un nx pl f0 f1 (va_up f2 z1.toNatClampNeg 1)) ++ REF T b (if rg z1 0 1 then yS (va_up (va_up y 5 (rLay (y 1) 0 (202 * z1.toNatClampNeg) (y 5))) 6 (va_up (y 6) z1.toNatClampNeg 1)) 3 0 else yS y 3 1) w) H := hP
    have hD : va_D A ((OUT T ob (vp_updL fo 0 (((O 0) 0 0).toInt64)) :: WIN T v B (va_up O (11 + z1.toNatClampNeg) (O 0)) g ln un nx pl f0 f1 (va_up f2 z1.toNatClampNeg 1)) ++ REF T b (if rg z1 0 1 then yS (va_up (va_up y 5 (rLay (y 1) 0 (202 * z1.toNatClampNeg) (y 5))) 6 (va_up (y 6) z1.toNatClampNeg 1)) 3 0 else yS y 3 1) w) := hD
    refine lv_aload_n hx hb dL_law_3056 rfl (lv_at hl 5 rfl) ?_
    refine lv_iconst (v := 0) hx hb dL_law_3057 (by decide) ?_
    refine laldO hx hb hK hP dL_law_3058 ?_
    refine lv_iload hx hb dL_law_3059 (lv_at hl 0 rfl) ?_
    refine lv_i2l (v := (if rg z1 0 1 then y 1 0 else 0).toInt64) hx hb dL_law_3061 rfl ?_
    refine W.lcmp hx hb dL_law_3062 ?_
    refine lv_if_eq (tgt := 3068) hx hb dL_law_3063 (by decide) (fun _ => ?_) (fun c1 => absurd ((lg_cmp_eq _ _).mpr eV) c1)
    refine lv_goto (tgt := 3239) hx hb dL_law_3068 (by decide) ?_
    refine W.widen (k := cells + 5) (n := slots + 30) (by omega) (by omega) ?_
    have hP : va_P D vwCl ((OUT T ob (vp_updL fo 0 (((O 0) 0 0).toInt64)) :: WIN T v B (va_up O (11 + z1.toNatClampNeg) (O 0)) g ln un nx pl f0 f1 (va_up f2 z1.toNatClampNeg 1)) ++ REF T b (if rg z1 0 1 then yS (va_up (va_up y 5 (rLay (y 1) 0 (202 * z1.toNatClampNeg) (y 5))) 6 (va_up (y 6) z1.toNatClampNeg 1)) 3 0 else yS y 3 1) w) H := hP
    have hD : va_D A ((OUT T ob (vp_updL fo 0 (((O 0) 0 0).toInt64)) :: WIN T v B (va_up O (11 + z1.toNatClampNeg) (O 0)) g ln un nx pl f0 f1 (va_up f2 z1.toNatClampNeg 1)) ++ REF T b (if rg z1 0 1 then yS (va_up (va_up y 5 (rLay (y 1) 0 (202 * z1.toNatClampNeg) (y 5))) 6 (va_up (y 6) z1.toNatClampNeg 1)) 3 0 else yS y 3 1) w) := hD
    exact kk _ _ _ ⟨(va_up O (11 + z1.toNatClampNeg) (O 0)), g, ln, un, nx, pl, f0, f1, (va_up f2 z1.toNatClampNeg 1), (if rg z1 0 1 then yS (va_up (va_up y 5 (rLay (y 1) 0 (202 * z1.toNatClampNeg) (y 5))) 6 (va_up (y 6) z1.toNatClampNeg 1)) 3 0 else yS y 3 1), w, (vp_updL fo 0 (((O 0) 0 0).toInt64)), hP, hD, hS, hG1, lv_sub hl [2, 3, 4, 5, 6] rfl⟩
  | some E =>
    have hG1 := st.s
    refine lv_iload hx hb dL_law_3051 (lv_at hl 1 rfl) ?_
    refine lv_if_ne (tgt := 3068) hx hb dL_law_3053 (by decide) (fun _ => ?_) (fun c1 => absurd c1 kC_some)
    refine lv_goto (tgt := 3239) hx hb dL_law_3068 (by decide) ?_
    refine W.widen (k := cells + 5) (n := slots + 30) (by omega) (by omega) ?_
    have hP : va_P D vwCl ((OUT T ob fo :: WIN T v B O g ln un nx pl f0 f1 f2) ++ REF T b (if rg z1 0 1 then yS (va_up (va_up y 5 (rLay (y 1) 0 (202 * z1.toNatClampNeg) (y 5))) 6 (va_up (y 6) z1.toNatClampNeg 1)) 3 0 else yS y 3 1) w) H := hP
    have hD : va_D A ((OUT T ob fo :: WIN T v B O g ln un nx pl f0 f1 f2) ++ REF T b (if rg z1 0 1 then yS (va_up (va_up y 5 (rLay (y 1) 0 (202 * z1.toNatClampNeg) (y 5))) 6 (va_up (y 6) z1.toNatClampNeg 1)) 3 0 else yS y 3 1) w) := hD
    exact kk _ _ _ ⟨O, g, ln, un, nx, pl, f0, f1, f2, (if rg z1 0 1 then yS (va_up (va_up y 5 (rLay (y 1) 0 (202 * z1.toNatClampNeg) (y 5))) 6 (va_up (y 6) z1.toNatClampNeg 1)) 3 0 else yS y 3 1), w, fo, hP, hD, hS, hG1, lv_sub hl [2, 3, 4, 5, 6] rfl⟩

set_option maxHeartbeats 4000000 in
set_option maxRecDepth 100000 in
theorem arm_61 (X : LCX p l s m args c D T aK aV A sc L xs) {i : Nat} (hi : i + 6 ≤ L) {H : Heap} {locs : List Loc} {ls : Array Slot} {cells slots : Nat} (hcs : cells + 5 ≤ room_1.cells ∧ slots + 30 ≤ room_1.slots) (h : LST s D T A sc v B b ob i H locs ls) (kk : ∀ (H1 : Heap) (locs1 : List Loc) (ls1 : Array Slot), LST s D T A sc v B b ob i H1 locs1 ls1 → W p l e room_1 s m args below meth c H1 locs1 (cells + 5) (slots + 30) Q (F0 m 3239 ls1 [])) : W p l e room_1 s m args below meth c H locs cells slots Q (F0 m 3071 ls []) := by
  obtain ⟨hl9, hx, hb, hml, hown, hts, hX, hsc, hscA, hA, hC, hN, hK, hL⟩ := X
  obtain ⟨O, g, ln, un, nx, pl, f0, f1, f2, y, w, fo, hP, hD, hS, hG, hl⟩ := h
  obtain ⟨N, K, C, nt, hn, h9⟩ := id hG.1
  obtain ⟨z1, hz1⟩ : ∃ z, xs (i + 1) = z := ⟨_, rfl⟩
  refine lv_aload_n hx hb dL_law_3071 rfl (lv_at hl 1 rfl) ?_
  refine lv_aload_n hx hb dL_law_3072 rfl (lv_at hl 0 rfl) ?_
  refine lv_iload hx hb dL_law_3073 (lv_at hl 4 rfl) ?_
  refine lv_iconst (v := 1) hx hb dL_law_3075 (by decide) ?_
  refine lv_iadd hx hb dL_law_3076 ?_
  refine endI (r := nI (i + 1)) (nI_add i 1) ?_
  refine sldN hx hb hX hsc hscA hS hz1 (by omega) hL dL_law_3077 ?_
  refine lv_aload_n hx hb dL_law_3078 rfl (lv_at hl 3 rfl) ?_
  refine wlSi (As := [.ref (v 0), .int z1, .ref ob]) (rest := []) ⟨hx, hb, hml, hown, hts⟩ (c_L_restoreSnapshot l hl9 D T aK aV v B O g ln un nx pl f0 f1 f2 ob fo z1 hG.2.1.2.1 hG.2.1.2.2.1 _) (vx_cwSW 3 hts gl_L_restoreSnapshot rfl rfl rfl (by decide +kernel) ⟨Nat.le_of_ble_eq_true rfl, Nat.le_of_ble_eq_true rfl⟩) (Foc.lft _ _ _) hC hN hK hP hD hS hA rfl hl.1 rfl (Nat.le_of_ble_eq_true rfl) ⟨by omega, by omega⟩ dL_law_3079 (fun H locs hP hD hS => ?_)
  refine lv_istore (lv' := [(5, .int (kC "java/lang/IndexOutOfBoundsException" (orE (chkB (inN z1 2) "java/lang/IndexOutOfBoundsException") (chkB (!decide (f2 z1.toNatClampNeg = 0)) "java/util/NoSuchElementException")))), (0, .ref sc), (1, .ref (v 0)), (2, .ref (b 0)), (3, .ref ob), (4, .int (nI i))]) hx hb dL_law_3082 hl (by decide) rfl (fun ls hl => ?_)
  refine lv_aload_n hx hb dL_law_3084 rfl (lv_at hl 3 rfl) ?_
  refine lv_aload_n hx hb dL_law_3085 rfl (lv_at hl 1 rfl) ?_
  refine lv_iload hx hb dL_law_3086 (lv_at hl 5 rfl) ?_
  refine lv_iconst (v := 1) hx hb dL_law_3088 (by decide) ?_
  refine lv_iadd hx hb dL_law_3089 ?_
  refine endI (r := nI (i + 1)) (nI_add i 1) ?_
  refine sldN hx hb hX hsc hscA hS hz1 (by omega) hL dL_law_3090 ?_
  refine wrVi (As := [.int z1]) (rest := []) ⟨hx, hb, hml, hown, hts⟩ (c_X10_restoreSnapshot l D T b y w z1 un hG.2.1.1 hG.2.1.2.1 _) (cwV 1 hts gl_X10_restoreSnapshot rfl rfl rfl (by decide +kernel) ⟨Nat.le_of_ble_eq_true rfl, Nat.le_of_ble_eq_true rfl⟩) (Foc.rgt _ _ _) hK hP hD hS hA 0 rfl rfl rfl hl.1 rfl (Nat.le_of_ble_eq_true rfl) ⟨by omega, by omega⟩ dL_law_3091 (fun H locs hP hD hS => ?_)
  refine lv_istore (lv' := [(6, .int (if rg z1 0 1 then (if y 6 z1.toNatClampNeg = 0 then 0 else rLay (y 5) (202 * z1.toNatClampNeg) 0 (y 1) 0) else 0)), (5, .int (kC "java/lang/IndexOutOfBoundsException" (orE (chkB (inN z1 2) "java/lang/IndexOutOfBoundsException") (chkB (!decide (f2 z1.toNatClampNeg = 0)) "java/util/NoSuchElementException")))), (0, .ref sc), (1, .ref (v 0)), (2, .ref (b 0)), (3, .ref ob), (4, .int (nI i))]) hx hb dL_law_3094 hl (by decide) rfl (fun ls hl => ?_)
  refine lv_aload_n hx hb dL_law_3096 rfl (lv_at hl 4 rfl) ?_
  refine rdV (As := []) (rest := []) ⟨hx, hb, hml, hown, hts⟩ (c_X10_thrown l D T b (if rg z1 0 1 then (if y 6 z1.toNatClampNeg = 0 then yS y 3 2 else va_up (rKeep (yS y 3 0)) 1 (rLay (y 5) (202 * z1.toNatClampNeg) 0 (y 1))) else yS y 3 1) w) (cwV 0 hts gl_X10_thrown rfl rfl rfl (by decide +kernel) ⟨Nat.le_of_ble_eq_true rfl, Nat.le_of_ble_eq_true rfl⟩) hK ((Foc.rgt _ _ []).subP hP) 0 rfl rfl rfl hl.1 rfl (Nat.le_of_ble_eq_true rfl) ⟨by omega, by omega⟩ dL_law_3097 ?_
  refine lv_iload hx hb dL_law_3100 (lv_at hl 1 rfl) ?_
  have st := st_restoreSnapshot hG z1
  have hk := st.code
  refine lv_icmp_eq (tgt := 3107) hx hb dL_law_3102 (by decide) (fun _ => ?_) (fun c1 => absurd hk c1)
  generalize hcd : (orE (chkB (inN z1 2) "java/lang/IndexOutOfBoundsException") (chkB (!decide (f2 z1.toNatClampNeg = 0)) "java/util/NoSuchElementException")) = cd at st hP hD hl
  cases cd with
  | none =>
    obtain ⟨eV, hG1⟩ := st.n
    refine lv_iload hx hb dL_law_3107 (lv_at hl 1 rfl) ?_
    refine lv_if_ne (tgt := 3124) hx hb dL_law_3109 (by decide) (fun c1 => absurd rfl c1) (fun _ => ?_)
    have hP : va_P D vwCl ((OUT T ob (vp_updL fo 0 (((O (11 + z1.toNatClampNeg)) 0 0).toInt64)) :: WIN T v B (va_up (va_up O (3 + nx) (O 0)) 0 (O (11 + z1.toNatClampNeg))) g ln (if un = 8 then 8 else un + 1) ((nx + 1) % 8) pl f0 f1 f2) ++ REF T b (if rg z1 0 1 then (if y 6 z1.toNatClampNeg = 0 then yS y 3 2 else va_up (rKeep (yS y 3 0)) 1 (rLay (y 5) (202 * z1.toNatClampNeg) 0 (y 1))) else yS y 3 1) w) H := hP
    have hD : va_D A ((OUT T ob (vp_updL fo 0 (((O (11 + z1.toNatClampNeg)) 0 0).toInt64)) :: WIN T v B (va_up (va_up O (3 + nx) (O 0)) 0 (O (11 + z1.toNatClampNeg))) g ln (if un = 8 then 8 else un + 1) ((nx + 1) % 8) pl f0 f1 f2) ++ REF T b (if rg z1 0 1 then (if y 6 z1.toNatClampNeg = 0 then yS y 3 2 else va_up (rKeep (yS y 3 0)) 1 (rLay (y 5) (202 * z1.toNatClampNeg) 0 (y 1))) else yS y 3 1) w) := hD
    refine lv_aload_n hx hb dL_law_3112 rfl (lv_at hl 5 rfl) ?_
    refine lv_iconst (v := 0) hx hb dL_law_3113 (by decide) ?_
    refine laldO hx hb hK hP dL_law_3114 ?_
    refine lv_iload hx hb dL_law_3115 (lv_at hl 0 rfl) ?_
    refine lv_i2l (v := (if rg z1 0 1 then (if y 6 z1.toNatClampNeg = 0 then 0 else rLay (y 5) (202 * z1.toNatClampNeg) 0 (y 1) 0) else 0).toInt64) hx hb dL_law_3117 rfl ?_
    refine W.lcmp hx hb dL_law_3118 ?_
    refine lv_if_eq (tgt := 3124) hx hb dL_law_3119 (by decide) (fun _ => ?_) (fun c1 => absurd ((lg_cmp_eq _ _).mpr eV) c1)
    refine lv_goto (tgt := 3239) hx hb dL_law_3124 (by decide) ?_
    refine W.widen (k := cells + 5) (n := slots + 30) (by omega) (by omega) ?_
    have hP : va_P D vwCl ((OUT T ob (vp_updL fo 0 (((O (11 + z1.toNatClampNeg)) 0 0).toInt64)) :: WIN T v B (va_up (va_up O (3 + nx) (O 0)) 0 (O (11 + z1.toNatClampNeg))) g ln (if un = 8 then 8 else un + 1) ((nx + 1) % 8) pl f0 f1 f2) ++ REF T b (if rg z1 0 1 then (if y 6 z1.toNatClampNeg = 0 then yS y 3 2 else va_up (rKeep (yS y 3 0)) 1 (rLay (y 5) (202 * z1.toNatClampNeg) 0 (y 1))) else yS y 3 1) w) H := hP
    have hD : va_D A ((OUT T ob (vp_updL fo 0 (((O (11 + z1.toNatClampNeg)) 0 0).toInt64)) :: WIN T v B (va_up (va_up O (3 + nx) (O 0)) 0 (O (11 + z1.toNatClampNeg))) g ln (if un = 8 then 8 else un + 1) ((nx + 1) % 8) pl f0 f1 f2) ++ REF T b (if rg z1 0 1 then (if y 6 z1.toNatClampNeg = 0 then yS y 3 2 else va_up (rKeep (yS y 3 0)) 1 (rLay (y 5) (202 * z1.toNatClampNeg) 0 (y 1))) else yS y 3 1) w) := hD
    exact kk _ _ _ ⟨(va_up (va_up O (3 + nx) (O 0)) 0 (O (11 + z1.toNatClampNeg))), g, ln, (if un = 8 then 8 else un + 1), ((nx + 1) % 8), pl, f0, f1, f2, (if rg z1 0 1 then (if y 6 z1.toNatClampNeg = 0 then yS y 3 2 else va_up (rKeep (yS y 3 0)) 1 (rLay (y 5) (202 * z1.toNatClampNeg) 0 (y 1))) else yS y 3 1), w, (vp_updL fo 0 (((O (11 + z1.toNatClampNeg)) 0 0).toInt64)), hP, hD, hS, hG1, lv_sub hl [2, 3, 4, 5, 6] rfl⟩
  | some E =>
    have hG1 := st.s
    refine lv_iload hx hb dL_law_3107 (lv_at hl 1 rfl) ?_
    refine lv_if_ne (tgt := 3124) hx hb dL_law_3109 (by decide) (fun _ => ?_) (fun c1 => absurd c1 kC_some)
    refine lv_goto (tgt := 3239) hx hb dL_law_3124 (by decide) ?_
    refine W.widen (k := cells + 5) (n := slots + 30) (by omega) (by omega) ?_
    have hP : va_P D vwCl ((OUT T ob fo :: WIN T v B O g ln un nx pl f0 f1 f2) ++ REF T b (if rg z1 0 1 then (if y 6 z1.toNatClampNeg = 0 then yS y 3 2 else va_up (rKeep (yS y 3 0)) 1 (rLay (y 5) (202 * z1.toNatClampNeg) 0 (y 1))) else yS y 3 1) w) H := hP
    have hD : va_D A ((OUT T ob fo :: WIN T v B O g ln un nx pl f0 f1 f2) ++ REF T b (if rg z1 0 1 then (if y 6 z1.toNatClampNeg = 0 then yS y 3 2 else va_up (rKeep (yS y 3 0)) 1 (rLay (y 5) (202 * z1.toNatClampNeg) 0 (y 1))) else yS y 3 1) w) := hD
    exact kk _ _ _ ⟨O, g, ln, un, nx, pl, f0, f1, f2, (if rg z1 0 1 then (if y 6 z1.toNatClampNeg = 0 then yS y 3 2 else va_up (rKeep (yS y 3 0)) 1 (rLay (y 5) (202 * z1.toNatClampNeg) 0 (y 1))) else yS y 3 1), w, fo, hP, hD, hS, hG1, lv_sub hl [2, 3, 4, 5, 6] rfl⟩

set_option maxHeartbeats 4000000 in
set_option maxRecDepth 100000 in
theorem arm_62 (X : LCX p l s m args c D T aK aV A sc L xs) {i : Nat} (hi : i + 6 ≤ L) {H : Heap} {locs : List Loc} {ls : Array Slot} {cells slots : Nat} (hcs : cells + 5 ≤ room_1.cells ∧ slots + 30 ≤ room_1.slots) (h : LST s D T A sc v B b ob i H locs ls) (kk : ∀ (H1 : Heap) (locs1 : List Loc) (ls1 : Array Slot), LST s D T A sc v B b ob i H1 locs1 ls1 → W p l e room_1 s m args below meth c H1 locs1 (cells + 5) (slots + 30) Q (F0 m 3239 ls1 [])) : W p l e room_1 s m args below meth c H locs cells slots Q (F0 m 3127 ls []) := by
  obtain ⟨hl9, hx, hb, hml, hown, hts, hX, hsc, hscA, hA, hC, hN, hK, hL⟩ := X
  obtain ⟨O, g, ln, un, nx, pl, f0, f1, f2, y, w, fo, hP, hD, hS, hG, hl⟩ := h
  obtain ⟨N, K, C, nt, hn, h9⟩ := id hG.1
  obtain ⟨z1, hz1⟩ : ∃ z, xs (i + 1) = z := ⟨_, rfl⟩
  refine lv_aload_n hx hb dL_law_3127 rfl (lv_at hl 1 rfl) ?_
  refine lv_aload_n hx hb dL_law_3128 rfl (lv_at hl 0 rfl) ?_
  refine lv_iload hx hb dL_law_3129 (lv_at hl 4 rfl) ?_
  refine lv_iconst (v := 1) hx hb dL_law_3131 (by decide) ?_
  refine lv_iadd hx hb dL_law_3132 ?_
  refine endI (r := nI (i + 1)) (nI_add i 1) ?_
  refine sldN hx hb hX hsc hscA hS hz1 (by omega) hL dL_law_3133 ?_
  refine lv_aload_n hx hb dL_law_3134 rfl (lv_at hl 3 rfl) ?_
  refine wlSi (As := [.ref (v 0), .int z1, .ref ob]) (rest := []) ⟨hx, hb, hml, hown, hts⟩ (c_L_writeComplaints l hl9 D T aK aV v B O g ln un nx pl f0 f1 f2 ob fo z1 N K C nt hn.oi hn.st8 _) (vx_cwSW 3 hts gl_L_writeComplaints rfl rfl rfl (by decide +kernel) ⟨Nat.le_of_ble_eq_true rfl, Nat.le_of_ble_eq_true rfl⟩) (Foc.lft _ _ _) hC hN hK hP hD hS hA rfl hl.1 rfl (Nat.le_of_ble_eq_true rfl) ⟨by omega, by omega⟩ dL_law_3135 (fun H locs hP hD hS => ?_)
  refine lv_istore (lv' := [(5, .int (kC "java/lang/IllegalArgumentException" (chkB (rg z1 0 99) "java/lang/IllegalArgumentException"))), (0, .ref sc), (1, .ref (v 0)), (2, .ref (b 0)), (3, .ref ob), (4, .int (nI i))]) hx hb dL_law_3138 hl (by decide) rfl (fun ls hl => ?_)
  refine lv_aload_n hx hb dL_law_3140 rfl (lv_at hl 3 rfl) ?_
  refine lv_aload_n hx hb dL_law_3141 rfl (lv_at hl 1 rfl) ?_
  refine lv_iload hx hb dL_law_3142 (lv_at hl 5 rfl) ?_
  refine lv_iconst (v := 1) hx hb dL_law_3144 (by decide) ?_
  refine lv_iadd hx hb dL_law_3145 ?_
  refine endI (r := nI (i + 1)) (nI_add i 1) ?_
  refine sldN hx hb hX hsc hscA hS hz1 (by omega) hL dL_law_3146 ?_
  refine wrVi (As := [.int z1]) (rest := []) ⟨hx, hb, hml, hown, hts⟩ (c_X10_writeComplaints l D T b y w z1 N K C nt hn.ri hn.vi.st _) (cwV 1 hts gl_X10_writeComplaints rfl rfl rfl (by decide +kernel) ⟨Nat.le_of_ble_eq_true rfl, Nat.le_of_ble_eq_true rfl⟩) (Foc.rgt _ _ _) hK hP hD hS hA 0 rfl rfl rfl hl.1 rfl (Nat.le_of_ble_eq_true rfl) ⟨by omega, by omega⟩ dL_law_3147 (fun H locs hP hD hS => ?_)
  refine lv_istore (lv' := [(6, .int (if rg z1 0 99 then nI (iter (wStepR (y 1) z1) N 0 (y 8, 0)).2 else 0)), (5, .int (kC "java/lang/IllegalArgumentException" (chkB (rg z1 0 99) "java/lang/IllegalArgumentException"))), (0, .ref sc), (1, .ref (v 0)), (2, .ref (b 0)), (3, .ref ob), (4, .int (nI i))]) hx hb dL_law_3150 hl (by decide) rfl (fun ls hl => ?_)
  refine lv_aload_n hx hb dL_law_3152 rfl (lv_at hl 4 rfl) ?_
  refine rdV (As := []) (rest := []) ⟨hx, hb, hml, hown, hts⟩ (c_X10_thrown l D T b (if rg z1 0 99 then yS (yS (va_up y 8 (iter (wStepR (y 1) z1) N 0 (y 8, 0)).1) 3 0) 9 (nI (iter (wStepR (y 1) z1) N 0 (y 8, 0)).2) else yS y 3 1) w) (cwV 0 hts gl_X10_thrown rfl rfl rfl (by decide +kernel) ⟨Nat.le_of_ble_eq_true rfl, Nat.le_of_ble_eq_true rfl⟩) hK ((Foc.rgt _ _ []).subP hP) 0 rfl rfl rfl hl.1 rfl (Nat.le_of_ble_eq_true rfl) ⟨by omega, by omega⟩ dL_law_3153 ?_
  refine lv_iload hx hb dL_law_3156 (lv_at hl 1 rfl) ?_
  have st := st_writeComplaints hG hn z1
  have hk := st.code
  refine lv_icmp_eq (tgt := 3163) hx hb dL_law_3158 (by decide) (fun _ => ?_) (fun c1 => absurd hk c1)
  generalize hcd : (chkB (rg z1 0 99) "java/lang/IllegalArgumentException") = cd at st hP hD hl
  cases cd with
  | none =>
    obtain ⟨eV, hG1⟩ := st.n
    refine lv_iload hx hb dL_law_3163 (lv_at hl 1 rfl) ?_
    refine lv_if_ne (tgt := 3180) hx hb dL_law_3165 (by decide) (fun c1 => absurd rfl c1) (fun _ => ?_)
    have hP : va_P D vwCl ((OUT T ob (vp_updL fo 0 ((nI (iter (wStepC (O 0) z1) N 0 (f1, 0)).2).toInt64)) :: WIN T v B O g ln un nx ((iter (wStepC (O 0) z1) N 0 (f1, 0)).2) f0 ((iter (wStepC (O 0) z1) N 0 (f1, 0)).1) f2) ++ REF T b (if rg z1 0 99 then yS (yS (va_up y 8 (iter (wStepR (y 1) z1) N 0 (y 8, 0)).1) 3 0) 9 (nI (iter (wStepR (y 1) z1) N 0 (y 8, 0)).2) else yS y 3 1) w) H := hP
    have hD : va_D A ((OUT T ob (vp_updL fo 0 ((nI (iter (wStepC (O 0) z1) N 0 (f1, 0)).2).toInt64)) :: WIN T v B O g ln un nx ((iter (wStepC (O 0) z1) N 0 (f1, 0)).2) f0 ((iter (wStepC (O 0) z1) N 0 (f1, 0)).1) f2) ++ REF T b (if rg z1 0 99 then yS (yS (va_up y 8 (iter (wStepR (y 1) z1) N 0 (y 8, 0)).1) 3 0) 9 (nI (iter (wStepR (y 1) z1) N 0 (y 8, 0)).2) else yS y 3 1) w) := hD
    refine lv_aload_n hx hb dL_law_3168 rfl (lv_at hl 5 rfl) ?_
    refine lv_iconst (v := 0) hx hb dL_law_3169 (by decide) ?_
    refine laldO hx hb hK hP dL_law_3170 ?_
    refine lv_iload hx hb dL_law_3171 (lv_at hl 0 rfl) ?_
    refine lv_i2l (v := (if rg z1 0 99 then nI (iter (wStepR (y 1) z1) N 0 (y 8, 0)).2 else 0).toInt64) hx hb dL_law_3173 rfl ?_
    refine W.lcmp hx hb dL_law_3174 ?_
    refine lv_if_eq (tgt := 3180) hx hb dL_law_3175 (by decide) (fun _ => ?_) (fun c1 => absurd ((lg_cmp_eq _ _).mpr eV) c1)
    refine lv_goto (tgt := 3239) hx hb dL_law_3180 (by decide) ?_
    refine W.widen (k := cells + 5) (n := slots + 30) (by omega) (by omega) ?_
    have hP : va_P D vwCl ((OUT T ob (vp_updL fo 0 ((nI (iter (wStepC (O 0) z1) N 0 (f1, 0)).2).toInt64)) :: WIN T v B O g ln un nx ((iter (wStepC (O 0) z1) N 0 (f1, 0)).2) f0 ((iter (wStepC (O 0) z1) N 0 (f1, 0)).1) f2) ++ REF T b (if rg z1 0 99 then yS (yS (va_up y 8 (iter (wStepR (y 1) z1) N 0 (y 8, 0)).1) 3 0) 9 (nI (iter (wStepR (y 1) z1) N 0 (y 8, 0)).2) else yS y 3 1) w) H := hP
    have hD : va_D A ((OUT T ob (vp_updL fo 0 ((nI (iter (wStepC (O 0) z1) N 0 (f1, 0)).2).toInt64)) :: WIN T v B O g ln un nx ((iter (wStepC (O 0) z1) N 0 (f1, 0)).2) f0 ((iter (wStepC (O 0) z1) N 0 (f1, 0)).1) f2) ++ REF T b (if rg z1 0 99 then yS (yS (va_up y 8 (iter (wStepR (y 1) z1) N 0 (y 8, 0)).1) 3 0) 9 (nI (iter (wStepR (y 1) z1) N 0 (y 8, 0)).2) else yS y 3 1) w) := hD
    exact kk _ _ _ ⟨O, g, ln, un, nx, ((iter (wStepC (O 0) z1) N 0 (f1, 0)).2), f0, ((iter (wStepC (O 0) z1) N 0 (f1, 0)).1), f2, (if rg z1 0 99 then yS (yS (va_up y 8 (iter (wStepR (y 1) z1) N 0 (y 8, 0)).1) 3 0) 9 (nI (iter (wStepR (y 1) z1) N 0 (y 8, 0)).2) else yS y 3 1), w, (vp_updL fo 0 ((nI (iter (wStepC (O 0) z1) N 0 (f1, 0)).2).toInt64)), hP, hD, hS, hG1, lv_sub hl [2, 3, 4, 5, 6] rfl⟩
  | some E =>
    have hG1 := st.s
    refine lv_iload hx hb dL_law_3163 (lv_at hl 1 rfl) ?_
    refine lv_if_ne (tgt := 3180) hx hb dL_law_3165 (by decide) (fun _ => ?_) (fun c1 => absurd c1 kC_some)
    refine lv_goto (tgt := 3239) hx hb dL_law_3180 (by decide) ?_
    refine W.widen (k := cells + 5) (n := slots + 30) (by omega) (by omega) ?_
    have hP : va_P D vwCl ((OUT T ob fo :: WIN T v B O g ln un nx pl f0 f1 f2) ++ REF T b (if rg z1 0 99 then yS (yS (va_up y 8 (iter (wStepR (y 1) z1) N 0 (y 8, 0)).1) 3 0) 9 (nI (iter (wStepR (y 1) z1) N 0 (y 8, 0)).2) else yS y 3 1) w) H := hP
    have hD : va_D A ((OUT T ob fo :: WIN T v B O g ln un nx pl f0 f1 f2) ++ REF T b (if rg z1 0 99 then yS (yS (va_up y 8 (iter (wStepR (y 1) z1) N 0 (y 8, 0)).1) 3 0) 9 (nI (iter (wStepR (y 1) z1) N 0 (y 8, 0)).2) else yS y 3 1) w) := hD
    exact kk _ _ _ ⟨O, g, ln, un, nx, pl, f0, f1, f2, (if rg z1 0 99 then yS (yS (va_up y 8 (iter (wStepR (y 1) z1) N 0 (y 8, 0)).1) 3 0) 9 (nI (iter (wStepR (y 1) z1) N 0 (y 8, 0)).2) else yS y 3 1), w, fo, hP, hD, hS, hG1, lv_sub hl [2, 3, 4, 5, 6] rfl⟩

set_option maxHeartbeats 4000000 in
set_option maxRecDepth 100000 in
theorem arm_63 (X : LCX p l s m args c D T aK aV A sc L xs) {i : Nat} (hi : i + 6 ≤ L) {H : Heap} {locs : List Loc} {ls : Array Slot} {cells slots : Nat} (hcs : cells + 5 ≤ room_1.cells ∧ slots + 30 ≤ room_1.slots) (h : LST s D T A sc v B b ob i H locs ls) (kk : ∀ (H1 : Heap) (locs1 : List Loc) (ls1 : Array Slot), LST s D T A sc v B b ob i H1 locs1 ls1 → W p l e room_1 s m args below meth c H1 locs1 (cells + 5) (slots + 30) Q (F0 m 3239 ls1 [])) : W p l e room_1 s m args below meth c H locs cells slots Q (F0 m 3183 ls []) := by
  obtain ⟨hl9, hx, hb, hml, hown, hts, hX, hsc, hscA, hA, hC, hN, hK, hL⟩ := X
  obtain ⟨O, g, ln, un, nx, pl, f0, f1, f2, y, w, fo, hP, hD, hS, hG, hl⟩ := h
  obtain ⟨N, K, C, nt, hn, h9⟩ := id hG.1
  obtain ⟨z1, hz1⟩ : ∃ z, xs (i + 1) = z := ⟨_, rfl⟩
  refine lv_aload_n hx hb dL_law_3183 rfl (lv_at hl 1 rfl) ?_
  refine lv_aload_n hx hb dL_law_3184 rfl (lv_at hl 0 rfl) ?_
  refine lv_iload hx hb dL_law_3185 (lv_at hl 4 rfl) ?_
  refine lv_iconst (v := 1) hx hb dL_law_3187 (by decide) ?_
  refine lv_iadd hx hb dL_law_3188 ?_
  refine endI (r := nI (i + 1)) (nI_add i 1) ?_
  refine sldN hx hb hX hsc hscA hS hz1 (by omega) hL dL_law_3189 ?_
  refine lv_aload_n hx hb dL_law_3190 rfl (lv_at hl 3 rfl) ?_
  refine wlSi (As := [.ref (v 0), .int z1, .ref ob]) (rest := []) ⟨hx, hb, hml, hown, hts⟩ (c_L_writtenByte l hl9 D T aK aV v B O g ln un nx pl f0 f1 f2 ob fo z1 hG.2.2.2.2.2.1 _) (vx_cwSW 3 hts gl_L_writtenByte rfl rfl rfl (by decide +kernel) ⟨Nat.le_of_ble_eq_true rfl, Nat.le_of_ble_eq_true rfl⟩) (Foc.lft _ _ _) hC hN hK hP hD hS hA rfl hl.1 rfl (Nat.le_of_ble_eq_true rfl) ⟨by omega, by omega⟩ dL_law_3191 (fun H locs hP hD hS => ?_)
  refine lv_istore (lv' := [(5, .int (kC "java/lang/IndexOutOfBoundsException" (chkB (inN z1 pl) "java/lang/IndexOutOfBoundsException"))), (0, .ref sc), (1, .ref (v 0)), (2, .ref (b 0)), (3, .ref ob), (4, .int (nI i))]) hx hb dL_law_3194 hl (by decide) rfl (fun ls hl => ?_)
  refine lv_aload_n hx hb dL_law_3196 rfl (lv_at hl 3 rfl) ?_
  refine lv_aload_n hx hb dL_law_3197 rfl (lv_at hl 1 rfl) ?_
  refine lv_iload hx hb dL_law_3198 (lv_at hl 5 rfl) ?_
  refine lv_iconst (v := 1) hx hb dL_law_3200 (by decide) ?_
  refine lv_iadd hx hb dL_law_3201 ?_
  refine endI (r := nI (i + 1)) (nI_add i 1) ?_
  refine sldN hx hb hX hsc hscA hS hz1 (by omega) hL dL_law_3202 ?_
  refine wrVi (As := [.int z1]) (rest := []) ⟨hx, hb, hml, hown, hts⟩ (c_X10_writtenByte l D T b y w z1 pl hG.2.2.2.2.2.2.1 (by have := hG.2.2.2.2.2.1; omega) _) (cwV 1 hts gl_X10_writtenByte rfl rfl rfl (by decide +kernel) ⟨Nat.le_of_ble_eq_true rfl, Nat.le_of_ble_eq_true rfl⟩) (Foc.rgt _ _ _) hK hP hD hS hA 0 rfl rfl rfl hl.1 rfl (Nat.le_of_ble_eq_true rfl) ⟨by omega, by omega⟩ dL_law_3203 (fun H locs hP hD hS => ?_)
  refine lv_istore (lv' := [(6, .int (if inN z1 pl then y 8 z1.toNatClampNeg else 0)), (5, .int (kC "java/lang/IndexOutOfBoundsException" (chkB (inN z1 pl) "java/lang/IndexOutOfBoundsException"))), (0, .ref sc), (1, .ref (v 0)), (2, .ref (b 0)), (3, .ref ob), (4, .int (nI i))]) hx hb dL_law_3206 hl (by decide) rfl (fun ls hl => ?_)
  refine lv_aload_n hx hb dL_law_3208 rfl (lv_at hl 4 rfl) ?_
  refine rdV (As := []) (rest := []) ⟨hx, hb, hml, hown, hts⟩ (c_X10_thrown l D T b (yS y 3 (if inN z1 pl then 0 else 1)) w) (cwV 0 hts gl_X10_thrown rfl rfl rfl (by decide +kernel) ⟨Nat.le_of_ble_eq_true rfl, Nat.le_of_ble_eq_true rfl⟩) hK ((Foc.rgt _ _ []).subP hP) 0 rfl rfl rfl hl.1 rfl (Nat.le_of_ble_eq_true rfl) ⟨by omega, by omega⟩ dL_law_3209 ?_
  refine lv_iload hx hb dL_law_3212 (lv_at hl 1 rfl) ?_
  have st := st_writtenByte hG z1
  have hk := st.code
  refine lv_icmp_eq (tgt := 3219) hx hb dL_law_3214 (by decide) (fun _ => ?_) (fun c1 => absurd hk c1)
  generalize hcd : (chkB (inN z1 pl) "java/lang/IndexOutOfBoundsException") = cd at st hP hD hl
  cases cd with
  | none =>
    obtain ⟨eV, hG1⟩ := st.n
    refine lv_iload hx hb dL_law_3219 (lv_at hl 1 rfl) ?_
    refine lv_if_ne (tgt := 3236) hx hb dL_law_3221 (by decide) (fun c1 => absurd rfl c1) (fun _ => ?_)
    have hP : va_P D vwCl ((OUT T ob (vp_updL fo 0 ((f1 z1.toNatClampNeg).toInt64)) :: WIN T v B O g ln un nx pl f0 f1 f2) ++ REF T b (yS y 3 (if inN z1 pl then 0 else 1)) w) H := hP
    have hD : va_D A ((OUT T ob (vp_updL fo 0 ((f1 z1.toNatClampNeg).toInt64)) :: WIN T v B O g ln un nx pl f0 f1 f2) ++ REF T b (yS y 3 (if inN z1 pl then 0 else 1)) w) := hD
    refine lv_aload_n hx hb dL_law_3224 rfl (lv_at hl 5 rfl) ?_
    refine lv_iconst (v := 0) hx hb dL_law_3225 (by decide) ?_
    refine laldO hx hb hK hP dL_law_3226 ?_
    refine lv_iload hx hb dL_law_3227 (lv_at hl 0 rfl) ?_
    refine lv_i2l (v := (if inN z1 pl then y 8 z1.toNatClampNeg else 0).toInt64) hx hb dL_law_3229 rfl ?_
    refine W.lcmp hx hb dL_law_3230 ?_
    refine lv_if_eq (tgt := 3236) hx hb dL_law_3231 (by decide) (fun _ => ?_) (fun c1 => absurd ((lg_cmp_eq _ _).mpr eV) c1)
    refine lv_goto (tgt := 3239) hx hb dL_law_3236 (by decide) ?_
    refine W.widen (k := cells + 5) (n := slots + 30) (by omega) (by omega) ?_
    have hP : va_P D vwCl ((OUT T ob (vp_updL fo 0 ((f1 z1.toNatClampNeg).toInt64)) :: WIN T v B O g ln un nx pl f0 f1 f2) ++ REF T b (yS y 3 (if inN z1 pl then 0 else 1)) w) H := hP
    have hD : va_D A ((OUT T ob (vp_updL fo 0 ((f1 z1.toNatClampNeg).toInt64)) :: WIN T v B O g ln un nx pl f0 f1 f2) ++ REF T b (yS y 3 (if inN z1 pl then 0 else 1)) w) := hD
    exact kk _ _ _ ⟨O, g, ln, un, nx, pl, f0, f1, f2, (yS y 3 (if inN z1 pl then 0 else 1)), w, (vp_updL fo 0 ((f1 z1.toNatClampNeg).toInt64)), hP, hD, hS, hG1, lv_sub hl [2, 3, 4, 5, 6] rfl⟩
  | some E =>
    have hG1 := st.s
    refine lv_iload hx hb dL_law_3219 (lv_at hl 1 rfl) ?_
    refine lv_if_ne (tgt := 3236) hx hb dL_law_3221 (by decide) (fun _ => ?_) (fun c1 => absurd c1 kC_some)
    refine lv_goto (tgt := 3239) hx hb dL_law_3236 (by decide) ?_
    refine W.widen (k := cells + 5) (n := slots + 30) (by omega) (by omega) ?_
    have hP : va_P D vwCl ((OUT T ob fo :: WIN T v B O g ln un nx pl f0 f1 f2) ++ REF T b (yS y 3 (if inN z1 pl then 0 else 1)) w) H := hP
    have hD : va_D A ((OUT T ob fo :: WIN T v B O g ln un nx pl f0 f1 f2) ++ REF T b (yS y 3 (if inN z1 pl then 0 else 1)) w) := hD
    exact kk _ _ _ ⟨O, g, ln, un, nx, pl, f0, f1, f2, (yS y 3 (if inN z1 pl then 0 else 1)), w, fo, hP, hD, hS, hG1, lv_sub hl [2, 3, 4, 5, 6] rfl⟩

end ARM
