section ARM
variable {p : Program} {l : Launch} {e : Env} {s : State} {m : MethodId} {args : Array Value} {below : List Frame} {meth : Method} {c : Code} {Q : State → Prop} {D : va_G} {T : Nat → ClassId} {aK aV : Nat → Nat} {A : Nat → Prop} {sc L : Nat} {xs : Nat → Int32} {v : Nat → Nat} {B : Nat → Nat → Nat} {b : Nat → Nat} {ob : Nat}
set_option maxHeartbeats 4000000 in
set_option maxRecDepth 100000 in
theorem arm_16 (X : LCX p l s m args c D T aK aV A sc L xs) {i : Nat} (hi : i + 6 ≤ L) {H : Heap} {locs : List Loc} {ls : Array Slot} {cells slots : Nat} (hcs : cells + 5 ≤ room_1.cells ∧ slots + 30 ≤ room_1.slots) (h : LST s D T A sc v B b ob i H locs ls) (kk : ∀ (H1 : Heap) (locs1 : List Loc) (ls1 : Array Slot), LST s D T A sc v B b ob i H1 locs1 ls1 → W p l e room_1 s m args below meth c H1 locs1 (cells + 5) (slots + 30) Q (F0 m 3239 ls1 [])) : W p l e room_1 s m args below meth c H locs cells slots Q (F0 m 993 ls []) := by
  obtain ⟨hl9, hx, hb, hml, hown, hts, hX, hsc, hscA, hA, hC, hN, hK, hL⟩ := X
  obtain ⟨O, g, ln, un, nx, pl, f0, f1, f2, y, w, fo, hP, hD, hS, hG, hl⟩ := h
  obtain ⟨N, K, C, nt, hn, h9⟩ := id hG.1
  obtain ⟨z1, hz1⟩ : ∃ z, xs (i + 1) = z := ⟨_, rfl⟩
  refine lv_aload_n hx hb dL_law_993 rfl (lv_at hl 1 rfl) ?_
  refine lv_aload_n hx hb dL_law_994 rfl (lv_at hl 0 rfl) ?_
  refine lv_iload hx hb dL_law_995 (lv_at hl 4 rfl) ?_
  refine lv_iconst (v := 1) hx hb dL_law_997 (by decide) ?_
  refine lv_iadd hx hb dL_law_998 ?_
  refine endI (r := nI (i + 1)) (nI_add i 1) ?_
  refine sldN hx hb hX hsc hscA hS hz1 (by omega) hL dL_law_999 ?_
  refine lv_aload_n hx hb dL_law_1000 rfl (lv_at hl 3 rfl) ?_
  refine wlSi (As := [.ref (v 0), .int z1, .ref ob]) (rest := []) ⟨hx, hb, hml, hown, hts⟩ (c_L_justifiedNights l hl9 D T aK aV v B O g ln un nx pl f0 f1 f2 ob fo z1 N K C nt hn.oi _) (vx_cwSW 3 hts gl_L_justifiedNights rfl rfl rfl (by decide +kernel) ⟨Nat.le_of_ble_eq_true rfl, Nat.le_of_ble_eq_true rfl⟩) (Foc.lft _ _ _) hC hN hK hP hD hS hA rfl hl.1 rfl (Nat.le_of_ble_eq_true rfl) ⟨by omega, by omega⟩ dL_law_1001 (fun H locs hP hD hS => ?_)
  refine lv_istore (lv' := [(5, .int (kC "java/lang/IllegalArgumentException" (chkB (rg z1 0 3) "java/lang/IllegalArgumentException"))), (0, .ref sc), (1, .ref (v 0)), (2, .ref (b 0)), (3, .ref ob), (4, .int (nI i))]) hx hb dL_law_1004 hl (by decide) rfl (fun ls hl => ?_)
  refine lv_aload_n hx hb dL_law_1006 rfl (lv_at hl 3 rfl) ?_
  refine lv_aload_n hx hb dL_law_1007 rfl (lv_at hl 1 rfl) ?_
  refine lv_iload hx hb dL_law_1008 (lv_at hl 5 rfl) ?_
  refine lv_iconst (v := 1) hx hb dL_law_1010 (by decide) ?_
  refine lv_iadd hx hb dL_law_1011 ?_
  refine endI (r := nI (i + 1)) (nI_add i 1) ?_
  refine sldN hx hb hX hsc hscA hS hz1 (by omega) hL dL_law_1012 ?_
  refine wrVi (As := [.int z1]) (rest := []) ⟨hx, hb, hml, hown, hts⟩ (c_X10_justifiedNights l D T b y w z1 N K C nt hn.ri _) (cwV 1 hts gl_X10_justifiedNights rfl rfl rfl (by decide +kernel) ⟨Nat.le_of_ble_eq_true rfl, Nat.le_of_ble_eq_true rfl⟩) (Foc.rgt _ _ _) hK hP hD hS hA 0 rfl rfl rfl hl.1 rfl (Nat.le_of_ble_eq_true rfl) ⟨by omega, by omega⟩ dL_law_1013 (fun H locs hP hD hS => ?_)
  refine lv_istore (lv' := [(6, .int (if rg z1 0 3 then cntJ (y 1) C nt z1.toNatClampNeg else 0)), (5, .int (kC "java/lang/IllegalArgumentException" (chkB (rg z1 0 3) "java/lang/IllegalArgumentException"))), (0, .ref sc), (1, .ref (v 0)), (2, .ref (b 0)), (3, .ref ob), (4, .int (nI i))]) hx hb dL_law_1016 hl (by decide) rfl (fun ls hl => ?_)
  refine lv_aload_n hx hb dL_law_1018 rfl (lv_at hl 4 rfl) ?_
  refine rdV (As := []) (rest := []) ⟨hx, hb, hml, hown, hts⟩ (c_X10_thrown l D T b (yS y 3 (if rg z1 0 3 then 0 else 1)) w) (cwV 0 hts gl_X10_thrown rfl rfl rfl (by decide +kernel) ⟨Nat.le_of_ble_eq_true rfl, Nat.le_of_ble_eq_true rfl⟩) hK ((Foc.rgt _ _ []).subP hP) 0 rfl rfl rfl hl.1 rfl (Nat.le_of_ble_eq_true rfl) ⟨by omega, by omega⟩ dL_law_1019 ?_
  refine lv_iload hx hb dL_law_1022 (lv_at hl 1 rfl) ?_
  have st := st_justifiedNights hG hn z1
  have hk := st.code
  refine lv_icmp_eq (tgt := 1029) hx hb dL_law_1024 (by decide) (fun _ => ?_) (fun c1 => absurd hk c1)
  generalize hcd : (chkB (rg z1 0 3) "java/lang/IllegalArgumentException") = cd at st hP hD hl
  cases cd with
  | none =>
    obtain ⟨eV, hG1⟩ := st.n
    refine lv_iload hx hb dL_law_1029 (lv_at hl 1 rfl) ?_
    refine lv_if_ne (tgt := 1046) hx hb dL_law_1031 (by decide) (fun c1 => absurd rfl c1) (fun _ => ?_)
    have hP : va_P D vwCl ((OUT T ob (vp_updL fo 0 ((jcC (O 0) C nt z1.toNatClampNeg).toInt64)) :: WIN T v B O g ln un nx pl f0 f1 f2) ++ REF T b (yS y 3 (if rg z1 0 3 then 0 else 1)) w) H := hP
    have hD : va_D A ((OUT T ob (vp_updL fo 0 ((jcC (O 0) C nt z1.toNatClampNeg).toInt64)) :: WIN T v B O g ln un nx pl f0 f1 f2) ++ REF T b (yS y 3 (if rg z1 0 3 then 0 else 1)) w) := hD
    refine lv_aload_n hx hb dL_law_1034 rfl (lv_at hl 5 rfl) ?_
    refine lv_iconst (v := 0) hx hb dL_law_1035 (by decide) ?_
    refine laldO hx hb hK hP dL_law_1036 ?_
    refine lv_iload hx hb dL_law_1037 (lv_at hl 0 rfl) ?_
    refine lv_i2l (v := (if rg z1 0 3 then cntJ (y 1) C nt z1.toNatClampNeg else 0).toInt64) hx hb dL_law_1039 rfl ?_
    refine W.lcmp hx hb dL_law_1040 ?_
    refine lv_if_eq (tgt := 1046) hx hb dL_law_1041 (by decide) (fun _ => ?_) (fun c1 => absurd ((lg_cmp_eq _ _).mpr eV) c1)
    refine lv_goto (tgt := 3239) hx hb dL_law_1046 (by decide) ?_
    refine W.widen (k := cells + 5) (n := slots + 30) (by omega) (by omega) ?_
    have hP : va_P D vwCl ((OUT T ob (vp_updL fo 0 ((jcC (O 0) C nt z1.toNatClampNeg).toInt64)) :: WIN T v B O g ln un nx pl f0 f1 f2) ++ REF T b (yS y 3 (if rg z1 0 3 then 0 else 1)) w) H := hP
    have hD : va_D A ((OUT T ob (vp_updL fo 0 ((jcC (O 0) C nt z1.toNatClampNeg).toInt64)) :: WIN T v B O g ln un nx pl f0 f1 f2) ++ REF T b (yS y 3 (if rg z1 0 3 then 0 else 1)) w) := hD
    exact kk _ _ _ ⟨O, g, ln, un, nx, pl, f0, f1, f2, (yS y 3 (if rg z1 0 3 then 0 else 1)), w, (vp_updL fo 0 ((jcC (O 0) C nt z1.toNatClampNeg).toInt64)), hP, hD, hS, hG1, lv_sub hl [2, 3, 4, 5, 6] rfl⟩
  | some E =>
    have hG1 := st.s
    refine lv_iload hx hb dL_law_1029 (lv_at hl 1 rfl) ?_
    refine lv_if_ne (tgt := 1046) hx hb dL_law_1031 (by decide) (fun _ => ?_) (fun c1 => absurd c1 kC_some)
    refine lv_goto (tgt := 3239) hx hb dL_law_1046 (by decide) ?_
    refine W.widen (k := cells + 5) (n := slots + 30) (by omega) (by omega) ?_
    have hP : va_P D vwCl ((OUT T ob fo :: WIN T v B O g ln un nx pl f0 f1 f2) ++ REF T b (yS y 3 (if rg z1 0 3 then 0 else 1)) w) H := hP
    have hD : va_D A ((OUT T ob fo :: WIN T v B O g ln un nx pl f0 f1 f2) ++ REF T b (yS y 3 (if rg z1 0 3 then 0 else 1)) w) := hD
    exact kk _ _ _ ⟨O, g, ln, un, nx, pl, f0, f1, f2, (yS y 3 (if rg z1 0 3 then 0 else 1)), w, fo, hP, hD, hS, hG1, lv_sub hl [2, 3, 4, 5, 6] rfl⟩

set_option maxHeartbeats 4000000 in
set_option maxRecDepth 100000 in
theorem arm_17 (X : LCX p l s m args c D T aK aV A sc L xs) {i : Nat} (hi : i + 6 ≤ L) {H : Heap} {locs : List Loc} {ls : Array Slot} {cells slots : Nat} (hcs : cells + 5 ≤ room_1.cells ∧ slots + 30 ≤ room_1.slots) (h : LST s D T A sc v B b ob i H locs ls) (kk : ∀ (H1 : Heap) (locs1 : List Loc) (ls1 : Array Slot), LST s D T A sc v B b ob i H1 locs1 ls1 → W p l e room_1 s m args below meth c H1 locs1 (cells + 5) (slots + 30) Q (F0 m 3239 ls1 [])) : W p l e room_1 s m args below meth c H locs cells slots Q (F0 m 1049 ls []) := by
  obtain ⟨hl9, hx, hb, hml, hown, hts, hX, hsc, hscA, hA, hC, hN, hK, hL⟩ := X
  obtain ⟨O, g, ln, un, nx, pl, f0, f1, f2, y, w, fo, hP, hD, hS, hG, hl⟩ := h
  obtain ⟨N, K, C, nt, hn, h9⟩ := id hG.1
  refine lv_aload_n hx hb dL_law_1049 rfl (lv_at hl 1 rfl) ?_
  refine rdV (As := []) (rest := []) ⟨hx, hb, hml, hown, hts⟩ (c_X9_likeliestSort l D T v B O g ln un nx pl f0 f1 f2 N K C nt hn.oi) (cwV 0 hts gl_X9_likeliestSort rfl rfl rfl (by decide +kernel) ⟨Nat.le_of_ble_eq_true rfl, Nat.le_of_ble_eq_true rfl⟩) hK ((Foc.mid _ _ [] _).subP hP) 0 rfl rfl rfl hl.1 rfl (Nat.le_of_ble_eq_true rfl) ⟨by omega, by omega⟩ dL_law_1050 ?_
  refine lv_aload_n hx hb dL_law_1053 rfl (lv_at hl 2 rfl) ?_
  refine wrVi (As := []) (rest := [.int (nI (likeC (jcC (O 0) C nt)).1)]) ⟨hx, hb, hml, hown, hts⟩ (c_X10_likeliestSort l D T b y w N K C nt hn.ri _) (cwV 0 hts gl_X10_likeliestSort rfl rfl rfl (by decide +kernel) ⟨Nat.le_of_ble_eq_true rfl, Nat.le_of_ble_eq_true rfl⟩) (Foc.rgt _ _ _) hK hP hD hS hA 0 rfl rfl rfl hl.1 rfl (Nat.le_of_ble_eq_true rfl) ⟨by omega, by omega⟩ dL_law_1054 (fun H locs hP hD hS => ?_)
  refine lv_icmp_eq (tgt := 3239) hx hb dL_law_1057 (by decide) (fun _ => ?_) (fun c1 => absurd (eq_likeliestSort hn) c1)
  refine W.widen (k := cells + 5) (n := slots + 30) (by omega) (by omega) ?_
  have hP : va_P D vwCl ((OUT T ob fo :: WIN T v B O g ln un nx pl f0 f1 f2) ++ REF T b (yS y 3 0) w) H := hP
  have hD : va_D A ((OUT T ob fo :: WIN T v B O g ln un nx pl f0 f1 f2) ++ REF T b (yS y 3 0) w) := hD
  exact kk _ _ _ ⟨O, g, ln, un, nx, pl, f0, f1, f2, (yS y 3 0), w, fo, hP, hD, hS, (hG.thr 0), lv_sub hl [0, 1, 2, 3, 4] rfl⟩

set_option maxHeartbeats 4000000 in
set_option maxRecDepth 100000 in
theorem arm_18 (X : LCX p l s m args c D T aK aV A sc L xs) {i : Nat} (hi : i + 6 ≤ L) {H : Heap} {locs : List Loc} {ls : Array Slot} {cells slots : Nat} (hcs : cells + 5 ≤ room_1.cells ∧ slots + 30 ≤ room_1.slots) (h : LST s D T A sc v B b ob i H locs ls) (kk : ∀ (H1 : Heap) (locs1 : List Loc) (ls1 : Array Slot), LST s D T A sc v B b ob i H1 locs1 ls1 → W p l e room_1 s m args below meth c H1 locs1 (cells + 5) (slots + 30) Q (F0 m 3239 ls1 [])) : W p l e room_1 s m args below meth c H locs cells slots Q (F0 m 1062 ls []) := by
  obtain ⟨hl9, hx, hb, hml, hown, hts, hX, hsc, hscA, hA, hC, hN, hK, hL⟩ := X
  obtain ⟨O, g, ln, un, nx, pl, f0, f1, f2, y, w, fo, hP, hD, hS, hG, hl⟩ := h
  obtain ⟨N, K, C, nt, hn, h9⟩ := id hG.1
  refine lv_aload_n hx hb dL_law_1062 rfl (lv_at hl 1 rfl) ?_
  refine rdV (As := []) (rest := []) ⟨hx, hb, hml, hown, hts⟩ (c_X9_complaintCount l D T v B O g ln un nx pl f0 f1 f2) (cwV 0 hts gl_X9_complaintCount rfl rfl rfl (by decide +kernel) ⟨Nat.le_of_ble_eq_true rfl, Nat.le_of_ble_eq_true rfl⟩) hK ((Foc.mid _ _ [] _).subP hP) 0 rfl rfl rfl hl.1 rfl (Nat.le_of_ble_eq_true rfl) ⟨by omega, by omega⟩ dL_law_1063 ?_
  refine lv_aload_n hx hb dL_law_1066 rfl (lv_at hl 2 rfl) ?_
  refine wrVi (As := []) (rest := [.int ((O 0) 0 7)]) ⟨hx, hb, hml, hown, hts⟩ (c_X10_complaintCount l D T b y w _) (cwV 0 hts gl_X10_complaintCount rfl rfl rfl (by decide +kernel) ⟨Nat.le_of_ble_eq_true rfl, Nat.le_of_ble_eq_true rfl⟩) (Foc.rgt _ _ _) hK hP hD hS hA 0 rfl rfl rfl hl.1 rfl (Nat.le_of_ble_eq_true rfl) ⟨by omega, by omega⟩ dL_law_1067 (fun H locs hP hD hS => ?_)
  refine lv_icmp_eq (tgt := 3239) hx hb dL_law_1070 (by decide) (fun _ => ?_) (fun c1 => absurd (eq_complaintCount hn) c1)
  refine W.widen (k := cells + 5) (n := slots + 30) (by omega) (by omega) ?_
  have hP : va_P D vwCl ((OUT T ob fo :: WIN T v B O g ln un nx pl f0 f1 f2) ++ REF T b (yS y 3 0) w) H := hP
  have hD : va_D A ((OUT T ob fo :: WIN T v B O g ln un nx pl f0 f1 f2) ++ REF T b (yS y 3 0) w) := hD
  exact kk _ _ _ ⟨O, g, ln, un, nx, pl, f0, f1, f2, (yS y 3 0), w, fo, hP, hD, hS, (hG.thr 0), lv_sub hl [0, 1, 2, 3, 4] rfl⟩

set_option maxHeartbeats 4000000 in
set_option maxRecDepth 100000 in
theorem arm_19 (X : LCX p l s m args c D T aK aV A sc L xs) {i : Nat} (hi : i + 6 ≤ L) {H : Heap} {locs : List Loc} {ls : Array Slot} {cells slots : Nat} (hcs : cells + 5 ≤ room_1.cells ∧ slots + 30 ≤ room_1.slots) (h : LST s D T A sc v B b ob i H locs ls) (kk : ∀ (H1 : Heap) (locs1 : List Loc) (ls1 : Array Slot), LST s D T A sc v B b ob i H1 locs1 ls1 → W p l e room_1 s m args below meth c H1 locs1 (cells + 5) (slots + 30) Q (F0 m 3239 ls1 [])) : W p l e room_1 s m args below meth c H locs cells slots Q (F0 m 1075 ls []) := by
  obtain ⟨hl9, hx, hb, hml, hown, hts, hX, hsc, hscA, hA, hC, hN, hK, hL⟩ := X
  obtain ⟨O, g, ln, un, nx, pl, f0, f1, f2, y, w, fo, hP, hD, hS, hG, hl⟩ := h
  obtain ⟨N, K, C, nt, hn, h9⟩ := id hG.1
  obtain ⟨z1, hz1⟩ : ∃ z, xs (i + 1) = z := ⟨_, rfl⟩
  refine lv_aload_n hx hb dL_law_1075 rfl (lv_at hl 1 rfl) ?_
  refine lv_aload_n hx hb dL_law_1076 rfl (lv_at hl 0 rfl) ?_
  refine lv_iload hx hb dL_law_1077 (lv_at hl 4 rfl) ?_
  refine lv_iconst (v := 1) hx hb dL_law_1079 (by decide) ?_
  refine lv_iadd hx hb dL_law_1080 ?_
  refine endI (r := nI (i + 1)) (nI_add i 1) ?_
  refine sldN hx hb hX hsc hscA hS hz1 (by omega) hL dL_law_1081 ?_
  refine lv_aload_n hx hb dL_law_1082 rfl (lv_at hl 3 rfl) ?_
  refine wlSi (As := [.ref (v 0), .int z1, .ref ob]) (rest := []) ⟨hx, hb, hml, hown, hts⟩ (c_L_personOf l hl9 D T aK aV v B O g ln un nx pl f0 f1 f2 ob fo z1 N K C nt hn.oi _) (vx_cwSW 3 hts gl_L_personOf rfl rfl rfl (by decide +kernel) ⟨Nat.le_of_ble_eq_true rfl, Nat.le_of_ble_eq_true rfl⟩) (Foc.lft _ _ _) hC hN hK hP hD hS hA rfl hl.1 rfl (Nat.le_of_ble_eq_true rfl) ⟨by omega, by omega⟩ dL_law_1083 (fun H locs hP hD hS => ?_)
  refine lv_istore (lv' := [(5, .int (kC "java/lang/IndexOutOfBoundsException" (chkB (inN z1 N) "java/lang/IndexOutOfBoundsException"))), (0, .ref sc), (1, .ref (v 0)), (2, .ref (b 0)), (3, .ref ob), (4, .int (nI i))]) hx hb dL_law_1086 hl (by decide) rfl (fun ls hl => ?_)
  refine lv_aload_n hx hb dL_law_1088 rfl (lv_at hl 3 rfl) ?_
  refine lv_aload_n hx hb dL_law_1089 rfl (lv_at hl 1 rfl) ?_
  refine lv_iload hx hb dL_law_1090 (lv_at hl 5 rfl) ?_
  refine lv_iconst (v := 1) hx hb dL_law_1092 (by decide) ?_
  refine lv_iadd hx hb dL_law_1093 ?_
  refine endI (r := nI (i + 1)) (nI_add i 1) ?_
  refine sldN hx hb hX hsc hscA hS hz1 (by omega) hL dL_law_1094 ?_
  refine wrVi (As := [.int z1]) (rest := []) ⟨hx, hb, hml, hown, hts⟩ (c_X10_personOf l D T b y w z1 N K C nt hn.ri _) (cwV 1 hts gl_X10_personOf rfl rfl rfl (by decide +kernel) ⟨Nat.le_of_ble_eq_true rfl, Nat.le_of_ble_eq_true rfl⟩) (Foc.rgt _ _ _) hK hP hD hS hA 0 rfl rfl rfl hl.1 rfl (Nat.le_of_ble_eq_true rfl) ⟨by omega, by omega⟩ dL_law_1095 (fun H locs hP hD hS => ?_)
  refine lv_istore (lv' := [(6, .int (if inN z1 N then y 1 (34 + 7 * z1.toNatClampNeg) else 0)), (5, .int (kC "java/lang/IndexOutOfBoundsException" (chkB (inN z1 N) "java/lang/IndexOutOfBoundsException"))), (0, .ref sc), (1, .ref (v 0)), (2, .ref (b 0)), (3, .ref ob), (4, .int (nI i))]) hx hb dL_law_1098 hl (by decide) rfl (fun ls hl => ?_)
  refine lv_aload_n hx hb dL_law_1100 rfl (lv_at hl 4 rfl) ?_
  refine rdV (As := []) (rest := []) ⟨hx, hb, hml, hown, hts⟩ (c_X10_thrown l D T b (yS y 3 (if inN z1 N then 0 else 1)) w) (cwV 0 hts gl_X10_thrown rfl rfl rfl (by decide +kernel) ⟨Nat.le_of_ble_eq_true rfl, Nat.le_of_ble_eq_true rfl⟩) hK ((Foc.rgt _ _ []).subP hP) 0 rfl rfl rfl hl.1 rfl (Nat.le_of_ble_eq_true rfl) ⟨by omega, by omega⟩ dL_law_1101 ?_
  refine lv_iload hx hb dL_law_1104 (lv_at hl 1 rfl) ?_
  have st := st_personOf hG hn z1
  have hk := st.code
  refine lv_icmp_eq (tgt := 1111) hx hb dL_law_1106 (by decide) (fun _ => ?_) (fun c1 => absurd hk c1)
  generalize hcd : (chkB (inN z1 N) "java/lang/IndexOutOfBoundsException") = cd at st hP hD hl
  cases cd with
  | none =>
    obtain ⟨eV, hG1⟩ := st.n
    refine lv_iload hx hb dL_law_1111 (lv_at hl 1 rfl) ?_
    refine lv_if_ne (tgt := 1128) hx hb dL_law_1113 (by decide) (fun c1 => absurd rfl c1) (fun _ => ?_)
    have hP : va_P D vwCl ((OUT T ob (vp_updL fo 0 (((O 0) 4 z1.toNatClampNeg).toInt64)) :: WIN T v B O g ln un nx pl f0 f1 f2) ++ REF T b (yS y 3 (if inN z1 N then 0 else 1)) w) H := hP
    have hD : va_D A ((OUT T ob (vp_updL fo 0 (((O 0) 4 z1.toNatClampNeg).toInt64)) :: WIN T v B O g ln un nx pl f0 f1 f2) ++ REF T b (yS y 3 (if inN z1 N then 0 else 1)) w) := hD
    refine lv_aload_n hx hb dL_law_1116 rfl (lv_at hl 5 rfl) ?_
    refine lv_iconst (v := 0) hx hb dL_law_1117 (by decide) ?_
    refine laldO hx hb hK hP dL_law_1118 ?_
    refine lv_iload hx hb dL_law_1119 (lv_at hl 0 rfl) ?_
    refine lv_i2l (v := (if inN z1 N then y 1 (34 + 7 * z1.toNatClampNeg) else 0).toInt64) hx hb dL_law_1121 rfl ?_
    refine W.lcmp hx hb dL_law_1122 ?_
    refine lv_if_eq (tgt := 1128) hx hb dL_law_1123 (by decide) (fun _ => ?_) (fun c1 => absurd ((lg_cmp_eq _ _).mpr eV) c1)
    refine lv_goto (tgt := 3239) hx hb dL_law_1128 (by decide) ?_
    refine W.widen (k := cells + 5) (n := slots + 30) (by omega) (by omega) ?_
    have hP : va_P D vwCl ((OUT T ob (vp_updL fo 0 (((O 0) 4 z1.toNatClampNeg).toInt64)) :: WIN T v B O g ln un nx pl f0 f1 f2) ++ REF T b (yS y 3 (if inN z1 N then 0 else 1)) w) H := hP
    have hD : va_D A ((OUT T ob (vp_updL fo 0 (((O 0) 4 z1.toNatClampNeg).toInt64)) :: WIN T v B O g ln un nx pl f0 f1 f2) ++ REF T b (yS y 3 (if inN z1 N then 0 else 1)) w) := hD
    exact kk _ _ _ ⟨O, g, ln, un, nx, pl, f0, f1, f2, (yS y 3 (if inN z1 N then 0 else 1)), w, (vp_updL fo 0 (((O 0) 4 z1.toNatClampNeg).toInt64)), hP, hD, hS, hG1, lv_sub hl [2, 3, 4, 5, 6] rfl⟩
  | some E =>
    have hG1 := st.s
    refine lv_iload hx hb dL_law_1111 (lv_at hl 1 rfl) ?_
    refine lv_if_ne (tgt := 1128) hx hb dL_law_1113 (by decide) (fun _ => ?_) (fun c1 => absurd c1 kC_some)
    refine lv_goto (tgt := 3239) hx hb dL_law_1128 (by decide) ?_
    refine W.widen (k := cells + 5) (n := slots + 30) (by omega) (by omega) ?_
    have hP : va_P D vwCl ((OUT T ob fo :: WIN T v B O g ln un nx pl f0 f1 f2) ++ REF T b (yS y 3 (if inN z1 N then 0 else 1)) w) H := hP
    have hD : va_D A ((OUT T ob fo :: WIN T v B O g ln un nx pl f0 f1 f2) ++ REF T b (yS y 3 (if inN z1 N then 0 else 1)) w) := hD
    exact kk _ _ _ ⟨O, g, ln, un, nx, pl, f0, f1, f2, (yS y 3 (if inN z1 N then 0 else 1)), w, fo, hP, hD, hS, hG1, lv_sub hl [2, 3, 4, 5, 6] rfl⟩

set_option maxHeartbeats 4000000 in
set_option maxRecDepth 100000 in
theorem arm_20 (X : LCX p l s m args c D T aK aV A sc L xs) {i : Nat} (hi : i + 6 ≤ L) {H : Heap} {locs : List Loc} {ls : Array Slot} {cells slots : Nat} (hcs : cells + 5 ≤ room_1.cells ∧ slots + 30 ≤ room_1.slots) (h : LST s D T A sc v B b ob i H locs ls) (kk : ∀ (H1 : Heap) (locs1 : List Loc) (ls1 : Array Slot), LST s D T A sc v B b ob i H1 locs1 ls1 → W p l e room_1 s m args below meth c H1 locs1 (cells + 5) (slots + 30) Q (F0 m 3239 ls1 [])) : W p l e room_1 s m args below meth c H locs cells slots Q (F0 m 1131 ls []) := by
  obtain ⟨hl9, hx, hb, hml, hown, hts, hX, hsc, hscA, hA, hC, hN, hK, hL⟩ := X
  obtain ⟨O, g, ln, un, nx, pl, f0, f1, f2, y, w, fo, hP, hD, hS, hG, hl⟩ := h
  obtain ⟨N, K, C, nt, hn, h9⟩ := id hG.1
  obtain ⟨z1, hz1⟩ : ∃ z, xs (i + 1) = z := ⟨_, rfl⟩
  refine lv_aload_n hx hb dL_law_1131 rfl (lv_at hl 1 rfl) ?_
  refine lv_aload_n hx hb dL_law_1132 rfl (lv_at hl 0 rfl) ?_
  refine lv_iload hx hb dL_law_1133 (lv_at hl 4 rfl) ?_
  refine lv_iconst (v := 1) hx hb dL_law_1135 (by decide) ?_
  refine lv_iadd hx hb dL_law_1136 ?_
  refine endI (r := nI (i + 1)) (nI_add i 1) ?_
  refine sldN hx hb hX hsc hscA hS hz1 (by omega) hL dL_law_1137 ?_
  refine lv_aload_n hx hb dL_law_1138 rfl (lv_at hl 3 rfl) ?_
  refine wlSi (As := [.ref (v 0), .int z1, .ref ob]) (rest := []) ⟨hx, hb, hml, hown, hts⟩ (c_L_sortOf l hl9 D T aK aV v B O g ln un nx pl f0 f1 f2 ob fo z1 N K C nt hn.oi _) (vx_cwSW 3 hts gl_L_sortOf rfl rfl rfl (by decide +kernel) ⟨Nat.le_of_ble_eq_true rfl, Nat.le_of_ble_eq_true rfl⟩) (Foc.lft _ _ _) hC hN hK hP hD hS hA rfl hl.1 rfl (Nat.le_of_ble_eq_true rfl) ⟨by omega, by omega⟩ dL_law_1139 (fun H locs hP hD hS => ?_)
  refine lv_istore (lv' := [(5, .int (kC "java/lang/IndexOutOfBoundsException" (chkB (inN z1 N) "java/lang/IndexOutOfBoundsException"))), (0, .ref sc), (1, .ref (v 0)), (2, .ref (b 0)), (3, .ref ob), (4, .int (nI i))]) hx hb dL_law_1142 hl (by decide) rfl (fun ls hl => ?_)
  refine lv_aload_n hx hb dL_law_1144 rfl (lv_at hl 3 rfl) ?_
  refine lv_aload_n hx hb dL_law_1145 rfl (lv_at hl 1 rfl) ?_
  refine lv_iload hx hb dL_law_1146 (lv_at hl 5 rfl) ?_
  refine lv_iconst (v := 1) hx hb dL_law_1148 (by decide) ?_
  refine lv_iadd hx hb dL_law_1149 ?_
  refine endI (r := nI (i + 1)) (nI_add i 1) ?_
  refine sldN hx hb hX hsc hscA hS hz1 (by omega) hL dL_law_1150 ?_
  refine wrVi (As := [.int z1]) (rest := []) ⟨hx, hb, hml, hown, hts⟩ (c_X10_sortOf l D T b y w z1 N K C nt hn.ri _) (cwV 1 hts gl_X10_sortOf rfl rfl rfl (by decide +kernel) ⟨Nat.le_of_ble_eq_true rfl, Nat.le_of_ble_eq_true rfl⟩) (Foc.rgt _ _ _) hK hP hD hS hA 0 rfl rfl rfl hl.1 rfl (Nat.le_of_ble_eq_true rfl) ⟨by omega, by omega⟩ dL_law_1151 (fun H locs hP hD hS => ?_)
  refine lv_istore (lv' := [(6, .int (if inN z1 N then y 1 (34 + 7 * z1.toNatClampNeg + 1) else 0)), (5, .int (kC "java/lang/IndexOutOfBoundsException" (chkB (inN z1 N) "java/lang/IndexOutOfBoundsException"))), (0, .ref sc), (1, .ref (v 0)), (2, .ref (b 0)), (3, .ref ob), (4, .int (nI i))]) hx hb dL_law_1154 hl (by decide) rfl (fun ls hl => ?_)
  refine lv_aload_n hx hb dL_law_1156 rfl (lv_at hl 4 rfl) ?_
  refine rdV (As := []) (rest := []) ⟨hx, hb, hml, hown, hts⟩ (c_X10_thrown l D T b (yS y 3 (if inN z1 N then 0 else 1)) w) (cwV 0 hts gl_X10_thrown rfl rfl rfl (by decide +kernel) ⟨Nat.le_of_ble_eq_true rfl, Nat.le_of_ble_eq_true rfl⟩) hK ((Foc.rgt _ _ []).subP hP) 0 rfl rfl rfl hl.1 rfl (Nat.le_of_ble_eq_true rfl) ⟨by omega, by omega⟩ dL_law_1157 ?_
  refine lv_iload hx hb dL_law_1160 (lv_at hl 1 rfl) ?_
  have st := st_sortOf hG hn z1
  have hk := st.code
  refine lv_icmp_eq (tgt := 1167) hx hb dL_law_1162 (by decide) (fun _ => ?_) (fun c1 => absurd hk c1)
  generalize hcd : (chkB (inN z1 N) "java/lang/IndexOutOfBoundsException") = cd at st hP hD hl
  cases cd with
  | none =>
    obtain ⟨eV, hG1⟩ := st.n
    refine lv_iload hx hb dL_law_1167 (lv_at hl 1 rfl) ?_
    refine lv_if_ne (tgt := 1184) hx hb dL_law_1169 (by decide) (fun c1 => absurd rfl c1) (fun _ => ?_)
    have hP : va_P D vwCl ((OUT T ob (vp_updL fo 0 (((O 0) 5 z1.toNatClampNeg).toInt64)) :: WIN T v B O g ln un nx pl f0 f1 f2) ++ REF T b (yS y 3 (if inN z1 N then 0 else 1)) w) H := hP
    have hD : va_D A ((OUT T ob (vp_updL fo 0 (((O 0) 5 z1.toNatClampNeg).toInt64)) :: WIN T v B O g ln un nx pl f0 f1 f2) ++ REF T b (yS y 3 (if inN z1 N then 0 else 1)) w) := hD
    refine lv_aload_n hx hb dL_law_1172 rfl (lv_at hl 5 rfl) ?_
    refine lv_iconst (v := 0) hx hb dL_law_1173 (by decide) ?_
    refine laldO hx hb hK hP dL_law_1174 ?_
    refine lv_iload hx hb dL_law_1175 (lv_at hl 0 rfl) ?_
    refine lv_i2l (v := (if inN z1 N then y 1 (34 + 7 * z1.toNatClampNeg + 1) else 0).toInt64) hx hb dL_law_1177 rfl ?_
    refine W.lcmp hx hb dL_law_1178 ?_
    refine lv_if_eq (tgt := 1184) hx hb dL_law_1179 (by decide) (fun _ => ?_) (fun c1 => absurd ((lg_cmp_eq _ _).mpr eV) c1)
    refine lv_goto (tgt := 3239) hx hb dL_law_1184 (by decide) ?_
    refine W.widen (k := cells + 5) (n := slots + 30) (by omega) (by omega) ?_
    have hP : va_P D vwCl ((OUT T ob (vp_updL fo 0 (((O 0) 5 z1.toNatClampNeg).toInt64)) :: WIN T v B O g ln un nx pl f0 f1 f2) ++ REF T b (yS y 3 (if inN z1 N then 0 else 1)) w) H := hP
    have hD : va_D A ((OUT T ob (vp_updL fo 0 (((O 0) 5 z1.toNatClampNeg).toInt64)) :: WIN T v B O g ln un nx pl f0 f1 f2) ++ REF T b (yS y 3 (if inN z1 N then 0 else 1)) w) := hD
    exact kk _ _ _ ⟨O, g, ln, un, nx, pl, f0, f1, f2, (yS y 3 (if inN z1 N then 0 else 1)), w, (vp_updL fo 0 (((O 0) 5 z1.toNatClampNeg).toInt64)), hP, hD, hS, hG1, lv_sub hl [2, 3, 4, 5, 6] rfl⟩
  | some E =>
    have hG1 := st.s
    refine lv_iload hx hb dL_law_1167 (lv_at hl 1 rfl) ?_
    refine lv_if_ne (tgt := 1184) hx hb dL_law_1169 (by decide) (fun _ => ?_) (fun c1 => absurd c1 kC_some)
    refine lv_goto (tgt := 3239) hx hb dL_law_1184 (by decide) ?_
    refine W.widen (k := cells + 5) (n := slots + 30) (by omega) (by omega) ?_
    have hP : va_P D vwCl ((OUT T ob fo :: WIN T v B O g ln un nx pl f0 f1 f2) ++ REF T b (yS y 3 (if inN z1 N then 0 else 1)) w) H := hP
    have hD : va_D A ((OUT T ob fo :: WIN T v B O g ln un nx pl f0 f1 f2) ++ REF T b (yS y 3 (if inN z1 N then 0 else 1)) w) := hD
    exact kk _ _ _ ⟨O, g, ln, un, nx, pl, f0, f1, f2, (yS y 3 (if inN z1 N then 0 else 1)), w, fo, hP, hD, hS, hG1, lv_sub hl [2, 3, 4, 5, 6] rfl⟩

set_option maxHeartbeats 4000000 in
set_option maxRecDepth 100000 in
theorem arm_21 (X : LCX p l s m args c D T aK aV A sc L xs) {i : Nat} (hi : i + 6 ≤ L) {H : Heap} {locs : List Loc} {ls : Array Slot} {cells slots : Nat} (hcs : cells + 5 ≤ room_1.cells ∧ slots + 30 ≤ room_1.slots) (h : LST s D T A sc v B b ob i H locs ls) (kk : ∀ (H1 : Heap) (locs1 : List Loc) (ls1 : Array Slot), LST s D T A sc v B b ob i H1 locs1 ls1 → W p l e room_1 s m args below meth c H1 locs1 (cells + 5) (slots + 30) Q (F0 m 3239 ls1 [])) : W p l e room_1 s m args below meth c H locs cells slots Q (F0 m 1187 ls []) := by
  obtain ⟨hl9, hx, hb, hml, hown, hts, hX, hsc, hscA, hA, hC, hN, hK, hL⟩ := X
  obtain ⟨O, g, ln, un, nx, pl, f0, f1, f2, y, w, fo, hP, hD, hS, hG, hl⟩ := h
  obtain ⟨N, K, C, nt, hn, h9⟩ := id hG.1
  obtain ⟨z1, hz1⟩ : ∃ z, xs (i + 1) = z := ⟨_, rfl⟩
  refine lv_aload_n hx hb dL_law_1187 rfl (lv_at hl 1 rfl) ?_
  refine lv_aload_n hx hb dL_law_1188 rfl (lv_at hl 0 rfl) ?_
  refine lv_iload hx hb dL_law_1189 (lv_at hl 4 rfl) ?_
  refine lv_iconst (v := 1) hx hb dL_law_1191 (by decide) ?_
  refine lv_iadd hx hb dL_law_1192 ?_
  refine endI (r := nI (i + 1)) (nI_add i 1) ?_
  refine sldN hx hb hX hsc hscA hS hz1 (by omega) hL dL_law_1193 ?_
  refine lv_aload_n hx hb dL_law_1194 rfl (lv_at hl 3 rfl) ?_
  refine wlSi (As := [.ref (v 0), .int z1, .ref ob]) (rest := []) ⟨hx, hb, hml, hown, hts⟩ (c_L_angerOf l hl9 D T aK aV v B O g ln un nx pl f0 f1 f2 ob fo z1 N K C nt hn.oi _) (vx_cwSW 3 hts gl_L_angerOf rfl rfl rfl (by decide +kernel) ⟨Nat.le_of_ble_eq_true rfl, Nat.le_of_ble_eq_true rfl⟩) (Foc.lft _ _ _) hC hN hK hP hD hS hA rfl hl.1 rfl (Nat.le_of_ble_eq_true rfl) ⟨by omega, by omega⟩ dL_law_1195 (fun H locs hP hD hS => ?_)
  refine lv_istore (lv' := [(5, .int (kC "java/lang/IndexOutOfBoundsException" (chkB (inN z1 N) "java/lang/IndexOutOfBoundsException"))), (0, .ref sc), (1, .ref (v 0)), (2, .ref (b 0)), (3, .ref ob), (4, .int (nI i))]) hx hb dL_law_1198 hl (by decide) rfl (fun ls hl => ?_)
  refine lv_aload_n hx hb dL_law_1200 rfl (lv_at hl 3 rfl) ?_
  refine lv_aload_n hx hb dL_law_1201 rfl (lv_at hl 1 rfl) ?_
  refine lv_iload hx hb dL_law_1202 (lv_at hl 5 rfl) ?_
  refine lv_iconst (v := 1) hx hb dL_law_1204 (by decide) ?_
  refine lv_iadd hx hb dL_law_1205 ?_
  refine endI (r := nI (i + 1)) (nI_add i 1) ?_
  refine sldN hx hb hX hsc hscA hS hz1 (by omega) hL dL_law_1206 ?_
  refine wrVi (As := [.int z1]) (rest := []) ⟨hx, hb, hml, hown, hts⟩ (c_X10_angerOf l D T b y w z1 N K C nt hn.ri _) (cwV 1 hts gl_X10_angerOf rfl rfl rfl (by decide +kernel) ⟨Nat.le_of_ble_eq_true rfl, Nat.le_of_ble_eq_true rfl⟩) (Foc.rgt _ _ _) hK hP hD hS hA 0 rfl rfl rfl hl.1 rfl (Nat.le_of_ble_eq_true rfl) ⟨by omega, by omega⟩ dL_law_1207 (fun H locs hP hD hS => ?_)
  refine lv_istore (lv' := [(6, .int (if inN z1 N then y 1 (34 + 7 * z1.toNatClampNeg + 2) else 0)), (5, .int (kC "java/lang/IndexOutOfBoundsException" (chkB (inN z1 N) "java/lang/IndexOutOfBoundsException"))), (0, .ref sc), (1, .ref (v 0)), (2, .ref (b 0)), (3, .ref ob), (4, .int (nI i))]) hx hb dL_law_1210 hl (by decide) rfl (fun ls hl => ?_)
  refine lv_aload_n hx hb dL_law_1212 rfl (lv_at hl 4 rfl) ?_
  refine rdV (As := []) (rest := []) ⟨hx, hb, hml, hown, hts⟩ (c_X10_thrown l D T b (yS y 3 (if inN z1 N then 0 else 1)) w) (cwV 0 hts gl_X10_thrown rfl rfl rfl (by decide +kernel) ⟨Nat.le_of_ble_eq_true rfl, Nat.le_of_ble_eq_true rfl⟩) hK ((Foc.rgt _ _ []).subP hP) 0 rfl rfl rfl hl.1 rfl (Nat.le_of_ble_eq_true rfl) ⟨by omega, by omega⟩ dL_law_1213 ?_
  refine lv_iload hx hb dL_law_1216 (lv_at hl 1 rfl) ?_
  have st := st_angerOf hG hn z1
  have hk := st.code
  refine lv_icmp_eq (tgt := 1223) hx hb dL_law_1218 (by decide) (fun _ => ?_) (fun c1 => absurd hk c1)
  generalize hcd : (chkB (inN z1 N) "java/lang/IndexOutOfBoundsException") = cd at st hP hD hl
  cases cd with
  | none =>
    obtain ⟨eV, hG1⟩ := st.n
    refine lv_iload hx hb dL_law_1223 (lv_at hl 1 rfl) ?_
    refine lv_if_ne (tgt := 1240) hx hb dL_law_1225 (by decide) (fun c1 => absurd rfl c1) (fun _ => ?_)
    have hP : va_P D vwCl ((OUT T ob (vp_updL fo 0 (((O 0) 6 z1.toNatClampNeg).toInt64)) :: WIN T v B O g ln un nx pl f0 f1 f2) ++ REF T b (yS y 3 (if inN z1 N then 0 else 1)) w) H := hP
    have hD : va_D A ((OUT T ob (vp_updL fo 0 (((O 0) 6 z1.toNatClampNeg).toInt64)) :: WIN T v B O g ln un nx pl f0 f1 f2) ++ REF T b (yS y 3 (if inN z1 N then 0 else 1)) w) := hD
    refine lv_aload_n hx hb dL_law_1228 rfl (lv_at hl 5 rfl) ?_
    refine lv_iconst (v := 0) hx hb dL_law_1229 (by decide) ?_
    refine laldO hx hb hK hP dL_law_1230 ?_
    refine lv_iload hx hb dL_law_1231 (lv_at hl 0 rfl) ?_
    refine lv_i2l (v := (if inN z1 N then y 1 (34 + 7 * z1.toNatClampNeg + 2) else 0).toInt64) hx hb dL_law_1233 rfl ?_
    refine W.lcmp hx hb dL_law_1234 ?_
    refine lv_if_eq (tgt := 1240) hx hb dL_law_1235 (by decide) (fun _ => ?_) (fun c1 => absurd ((lg_cmp_eq _ _).mpr eV) c1)
    refine lv_goto (tgt := 3239) hx hb dL_law_1240 (by decide) ?_
    refine W.widen (k := cells + 5) (n := slots + 30) (by omega) (by omega) ?_
    have hP : va_P D vwCl ((OUT T ob (vp_updL fo 0 (((O 0) 6 z1.toNatClampNeg).toInt64)) :: WIN T v B O g ln un nx pl f0 f1 f2) ++ REF T b (yS y 3 (if inN z1 N then 0 else 1)) w) H := hP
    have hD : va_D A ((OUT T ob (vp_updL fo 0 (((O 0) 6 z1.toNatClampNeg).toInt64)) :: WIN T v B O g ln un nx pl f0 f1 f2) ++ REF T b (yS y 3 (if inN z1 N then 0 else 1)) w) := hD
    exact kk _ _ _ ⟨O, g, ln, un, nx, pl, f0, f1, f2, (yS y 3 (if inN z1 N then 0 else 1)), w, (vp_updL fo 0 (((O 0) 6 z1.toNatClampNeg).toInt64)), hP, hD, hS, hG1, lv_sub hl [2, 3, 4, 5, 6] rfl⟩
  | some E =>
    have hG1 := st.s
    refine lv_iload hx hb dL_law_1223 (lv_at hl 1 rfl) ?_
    refine lv_if_ne (tgt := 1240) hx hb dL_law_1225 (by decide) (fun _ => ?_) (fun c1 => absurd c1 kC_some)
    refine lv_goto (tgt := 3239) hx hb dL_law_1240 (by decide) ?_
    refine W.widen (k := cells + 5) (n := slots + 30) (by omega) (by omega) ?_
    have hP : va_P D vwCl ((OUT T ob fo :: WIN T v B O g ln un nx pl f0 f1 f2) ++ REF T b (yS y 3 (if inN z1 N then 0 else 1)) w) H := hP
    have hD : va_D A ((OUT T ob fo :: WIN T v B O g ln un nx pl f0 f1 f2) ++ REF T b (yS y 3 (if inN z1 N then 0 else 1)) w) := hD
    exact kk _ _ _ ⟨O, g, ln, un, nx, pl, f0, f1, f2, (yS y 3 (if inN z1 N then 0 else 1)), w, fo, hP, hD, hS, hG1, lv_sub hl [2, 3, 4, 5, 6] rfl⟩

set_option maxHeartbeats 4000000 in
set_option maxRecDepth 100000 in
theorem arm_22 (X : LCX p l s m args c D T aK aV A sc L xs) {i : Nat} (hi : i + 6 ≤ L) {H : Heap} {locs : List Loc} {ls : Array Slot} {cells slots : Nat} (hcs : cells + 5 ≤ room_1.cells ∧ slots + 30 ≤ room_1.slots) (h : LST s D T A sc v B b ob i H locs ls) (kk : ∀ (H1 : Heap) (locs1 : List Loc) (ls1 : Array Slot), LST s D T A sc v B b ob i H1 locs1 ls1 → W p l e room_1 s m args below meth c H1 locs1 (cells + 5) (slots + 30) Q (F0 m 3239 ls1 [])) : W p l e room_1 s m args below meth c H locs cells slots Q (F0 m 1243 ls []) := by
  obtain ⟨hl9, hx, hb, hml, hown, hts, hX, hsc, hscA, hA, hC, hN, hK, hL⟩ := X
  obtain ⟨O, g, ln, un, nx, pl, f0, f1, f2, y, w, fo, hP, hD, hS, hG, hl⟩ := h
  obtain ⟨N, K, C, nt, hn, h9⟩ := id hG.1
  obtain ⟨z1, hz1⟩ : ∃ z, xs (i + 1) = z := ⟨_, rfl⟩
  refine lv_aload_n hx hb dL_law_1243 rfl (lv_at hl 1 rfl) ?_
  refine lv_aload_n hx hb dL_law_1244 rfl (lv_at hl 0 rfl) ?_
  refine lv_iload hx hb dL_law_1245 (lv_at hl 4 rfl) ?_
  refine lv_iconst (v := 1) hx hb dL_law_1247 (by decide) ?_
  refine lv_iadd hx hb dL_law_1248 ?_
  refine endI (r := nI (i + 1)) (nI_add i 1) ?_
  refine sldN hx hb hX hsc hscA hS hz1 (by omega) hL dL_law_1249 ?_
  refine lv_aload_n hx hb dL_law_1250 rfl (lv_at hl 3 rfl) ?_
  refine wlSi (As := [.ref (v 0), .int z1, .ref ob]) (rest := []) ⟨hx, hb, hml, hown, hts⟩ (c_L_filedIn l hl9 D T aK aV v B O g ln un nx pl f0 f1 f2 ob fo z1 N K C nt hn.oi _) (vx_cwSW 3 hts gl_L_filedIn rfl rfl rfl (by decide +kernel) ⟨Nat.le_of_ble_eq_true rfl, Nat.le_of_ble_eq_true rfl⟩) (Foc.lft _ _ _) hC hN hK hP hD hS hA rfl hl.1 rfl (Nat.le_of_ble_eq_true rfl) ⟨by omega, by omega⟩ dL_law_1251 (fun H locs hP hD hS => ?_)
  refine lv_istore (lv' := [(5, .int (kC "java/lang/IndexOutOfBoundsException" (chkB (inN z1 N) "java/lang/IndexOutOfBoundsException"))), (0, .ref sc), (1, .ref (v 0)), (2, .ref (b 0)), (3, .ref ob), (4, .int (nI i))]) hx hb dL_law_1254 hl (by decide) rfl (fun ls hl => ?_)
  refine lv_aload_n hx hb dL_law_1256 rfl (lv_at hl 3 rfl) ?_
  refine lv_aload_n hx hb dL_law_1257 rfl (lv_at hl 1 rfl) ?_
  refine lv_iload hx hb dL_law_1258 (lv_at hl 5 rfl) ?_
  refine lv_iconst (v := 1) hx hb dL_law_1260 (by decide) ?_
  refine lv_iadd hx hb dL_law_1261 ?_
  refine endI (r := nI (i + 1)) (nI_add i 1) ?_
  refine sldN hx hb hX hsc hscA hS hz1 (by omega) hL dL_law_1262 ?_
  refine wrVi (As := [.int z1]) (rest := []) ⟨hx, hb, hml, hown, hts⟩ (c_X10_filedIn l D T b y w z1 N K C nt hn.ri _) (cwV 1 hts gl_X10_filedIn rfl rfl rfl (by decide +kernel) ⟨Nat.le_of_ble_eq_true rfl, Nat.le_of_ble_eq_true rfl⟩) (Foc.rgt _ _ _) hK hP hD hS hA 0 rfl rfl rfl hl.1 rfl (Nat.le_of_ble_eq_true rfl) ⟨by omega, by omega⟩ dL_law_1263 (fun H locs hP hD hS => ?_)
  refine lv_istore (lv' := [(6, .int (if inN z1 N then y 1 (34 + 7 * z1.toNatClampNeg + 3) else 0)), (5, .int (kC "java/lang/IndexOutOfBoundsException" (chkB (inN z1 N) "java/lang/IndexOutOfBoundsException"))), (0, .ref sc), (1, .ref (v 0)), (2, .ref (b 0)), (3, .ref ob), (4, .int (nI i))]) hx hb dL_law_1266 hl (by decide) rfl (fun ls hl => ?_)
  refine lv_aload_n hx hb dL_law_1268 rfl (lv_at hl 4 rfl) ?_
  refine rdV (As := []) (rest := []) ⟨hx, hb, hml, hown, hts⟩ (c_X10_thrown l D T b (yS y 3 (if inN z1 N then 0 else 1)) w) (cwV 0 hts gl_X10_thrown rfl rfl rfl (by decide +kernel) ⟨Nat.le_of_ble_eq_true rfl, Nat.le_of_ble_eq_true rfl⟩) hK ((Foc.rgt _ _ []).subP hP) 0 rfl rfl rfl hl.1 rfl (Nat.le_of_ble_eq_true rfl) ⟨by omega, by omega⟩ dL_law_1269 ?_
  refine lv_iload hx hb dL_law_1272 (lv_at hl 1 rfl) ?_
  have st := st_filedIn hG hn z1
  have hk := st.code
  refine lv_icmp_eq (tgt := 1279) hx hb dL_law_1274 (by decide) (fun _ => ?_) (fun c1 => absurd hk c1)
  generalize hcd : (chkB (inN z1 N) "java/lang/IndexOutOfBoundsException") = cd at st hP hD hl
  cases cd with
  | none =>
    obtain ⟨eV, hG1⟩ := st.n
    refine lv_iload hx hb dL_law_1279 (lv_at hl 1 rfl) ?_
    refine lv_if_ne (tgt := 1296) hx hb dL_law_1281 (by decide) (fun c1 => absurd rfl c1) (fun _ => ?_)
    have hP : va_P D vwCl ((OUT T ob (vp_updL fo 0 (((O 0) 7 z1.toNatClampNeg).toInt64)) :: WIN T v B O g ln un nx pl f0 f1 f2) ++ REF T b (yS y 3 (if inN z1 N then 0 else 1)) w) H := hP
    have hD : va_D A ((OUT T ob (vp_updL fo 0 (((O 0) 7 z1.toNatClampNeg).toInt64)) :: WIN T v B O g ln un nx pl f0 f1 f2) ++ REF T b (yS y 3 (if inN z1 N then 0 else 1)) w) := hD
    refine lv_aload_n hx hb dL_law_1284 rfl (lv_at hl 5 rfl) ?_
    refine lv_iconst (v := 0) hx hb dL_law_1285 (by decide) ?_
    refine laldO hx hb hK hP dL_law_1286 ?_
    refine lv_iload hx hb dL_law_1287 (lv_at hl 0 rfl) ?_
    refine lv_i2l (v := (if inN z1 N then y 1 (34 + 7 * z1.toNatClampNeg + 3) else 0).toInt64) hx hb dL_law_1289 rfl ?_
    refine W.lcmp hx hb dL_law_1290 ?_
    refine lv_if_eq (tgt := 1296) hx hb dL_law_1291 (by decide) (fun _ => ?_) (fun c1 => absurd ((lg_cmp_eq _ _).mpr eV) c1)
    refine lv_goto (tgt := 3239) hx hb dL_law_1296 (by decide) ?_
    refine W.widen (k := cells + 5) (n := slots + 30) (by omega) (by omega) ?_
    have hP : va_P D vwCl ((OUT T ob (vp_updL fo 0 (((O 0) 7 z1.toNatClampNeg).toInt64)) :: WIN T v B O g ln un nx pl f0 f1 f2) ++ REF T b (yS y 3 (if inN z1 N then 0 else 1)) w) H := hP
    have hD : va_D A ((OUT T ob (vp_updL fo 0 (((O 0) 7 z1.toNatClampNeg).toInt64)) :: WIN T v B O g ln un nx pl f0 f1 f2) ++ REF T b (yS y 3 (if inN z1 N then 0 else 1)) w) := hD
    exact kk _ _ _ ⟨O, g, ln, un, nx, pl, f0, f1, f2, (yS y 3 (if inN z1 N then 0 else 1)), w, (vp_updL fo 0 (((O 0) 7 z1.toNatClampNeg).toInt64)), hP, hD, hS, hG1, lv_sub hl [2, 3, 4, 5, 6] rfl⟩
  | some E =>
    have hG1 := st.s
    refine lv_iload hx hb dL_law_1279 (lv_at hl 1 rfl) ?_
    refine lv_if_ne (tgt := 1296) hx hb dL_law_1281 (by decide) (fun _ => ?_) (fun c1 => absurd c1 kC_some)
    refine lv_goto (tgt := 3239) hx hb dL_law_1296 (by decide) ?_
    refine W.widen (k := cells + 5) (n := slots + 30) (by omega) (by omega) ?_
    have hP : va_P D vwCl ((OUT T ob fo :: WIN T v B O g ln un nx pl f0 f1 f2) ++ REF T b (yS y 3 (if inN z1 N then 0 else 1)) w) H := hP
    have hD : va_D A ((OUT T ob fo :: WIN T v B O g ln un nx pl f0 f1 f2) ++ REF T b (yS y 3 (if inN z1 N then 0 else 1)) w) := hD
    exact kk _ _ _ ⟨O, g, ln, un, nx, pl, f0, f1, f2, (yS y 3 (if inN z1 N then 0 else 1)), w, fo, hP, hD, hS, hG1, lv_sub hl [2, 3, 4, 5, 6] rfl⟩

set_option maxHeartbeats 4000000 in
set_option maxRecDepth 100000 in
theorem arm_23 (X : LCX p l s m args c D T aK aV A sc L xs) {i : Nat} (hi : i + 6 ≤ L) {H : Heap} {locs : List Loc} {ls : Array Slot} {cells slots : Nat} (hcs : cells + 5 ≤ room_1.cells ∧ slots + 30 ≤ room_1.slots) (h : LST s D T A sc v B b ob i H locs ls) (kk : ∀ (H1 : Heap) (locs1 : List Loc) (ls1 : Array Slot), LST s D T A sc v B b ob i H1 locs1 ls1 → W p l e room_1 s m args below meth c H1 locs1 (cells + 5) (slots + 30) Q (F0 m 3239 ls1 [])) : W p l e room_1 s m args below meth c H locs cells slots Q (F0 m 1299 ls []) := by
  obtain ⟨hl9, hx, hb, hml, hown, hts, hX, hsc, hscA, hA, hC, hN, hK, hL⟩ := X
  obtain ⟨O, g, ln, un, nx, pl, f0, f1, f2, y, w, fo, hP, hD, hS, hG, hl⟩ := h
  obtain ⟨N, K, C, nt, hn, h9⟩ := id hG.1
  obtain ⟨z1, hz1⟩ : ∃ z, xs (i + 1) = z := ⟨_, rfl⟩
  refine lv_aload_n hx hb dL_law_1299 rfl (lv_at hl 1 rfl) ?_
  refine lv_aload_n hx hb dL_law_1300 rfl (lv_at hl 0 rfl) ?_
  refine lv_iload hx hb dL_law_1301 (lv_at hl 4 rfl) ?_
  refine lv_iconst (v := 1) hx hb dL_law_1303 (by decide) ?_
  refine lv_iadd hx hb dL_law_1304 ?_
  refine endI (r := nI (i + 1)) (nI_add i 1) ?_
  refine sldN hx hb hX hsc hscA hS hz1 (by omega) hL dL_law_1305 ?_
  refine lv_aload_n hx hb dL_law_1306 rfl (lv_at hl 3 rfl) ?_
  refine wlSi (As := [.ref (v 0), .int z1, .ref ob]) (rest := []) ⟨hx, hb, hml, hown, hts⟩ (c_L_isWaiting l hl9 D T aK aV v B O g ln un nx pl f0 f1 f2 ob fo z1 N K C nt hn.oi _) (vx_cwSW 3 hts gl_L_isWaiting rfl rfl rfl (by decide +kernel) ⟨Nat.le_of_ble_eq_true rfl, Nat.le_of_ble_eq_true rfl⟩) (Foc.lft _ _ _) hC hN hK hP hD hS hA rfl hl.1 rfl (Nat.le_of_ble_eq_true rfl) ⟨by omega, by omega⟩ dL_law_1307 (fun H locs hP hD hS => ?_)
  refine lv_istore (lv' := [(5, .int (kC "java/lang/IndexOutOfBoundsException" (chkB (inN z1 N) "java/lang/IndexOutOfBoundsException"))), (0, .ref sc), (1, .ref (v 0)), (2, .ref (b 0)), (3, .ref ob), (4, .int (nI i))]) hx hb dL_law_1310 hl (by decide) rfl (fun ls hl => ?_)
  refine lv_aload_n hx hb dL_law_1312 rfl (lv_at hl 3 rfl) ?_
  refine lv_aload_n hx hb dL_law_1313 rfl (lv_at hl 1 rfl) ?_
  refine lv_iload hx hb dL_law_1314 (lv_at hl 5 rfl) ?_
  refine lv_iconst (v := 1) hx hb dL_law_1316 (by decide) ?_
  refine lv_iadd hx hb dL_law_1317 ?_
  refine endI (r := nI (i + 1)) (nI_add i 1) ?_
  refine sldN hx hb hX hsc hscA hS hz1 (by omega) hL dL_law_1318 ?_
  refine wrVi (As := [.int z1]) (rest := []) ⟨hx, hb, hml, hown, hts⟩ (c_X10_isWaiting l D T b y w z1 N K C nt hn.ri _) (cwV 1 hts gl_X10_isWaiting rfl rfl rfl (by decide +kernel) ⟨Nat.le_of_ble_eq_true rfl, Nat.le_of_ble_eq_true rfl⟩) (Foc.rgt _ _ _) hK hP hD hS hA 0 rfl rfl rfl hl.1 rfl (Nat.le_of_ble_eq_true rfl) ⟨by omega, by omega⟩ dL_law_1319 (fun H locs hP hD hS => ?_)
  refine lv_istore (lv' := [(6, .int (bI (inN z1 N && decide (y 1 (34 + 7 * z1.toNatClampNeg + 4) = 0)))), (5, .int (kC "java/lang/IndexOutOfBoundsException" (chkB (inN z1 N) "java/lang/IndexOutOfBoundsException"))), (0, .ref sc), (1, .ref (v 0)), (2, .ref (b 0)), (3, .ref ob), (4, .int (nI i))]) hx hb dL_law_1322 hl (by decide) rfl (fun ls hl => ?_)
  refine lv_aload_n hx hb dL_law_1324 rfl (lv_at hl 4 rfl) ?_
  refine rdV (As := []) (rest := []) ⟨hx, hb, hml, hown, hts⟩ (c_X10_thrown l D T b (yS y 3 (if inN z1 N then 0 else 1)) w) (cwV 0 hts gl_X10_thrown rfl rfl rfl (by decide +kernel) ⟨Nat.le_of_ble_eq_true rfl, Nat.le_of_ble_eq_true rfl⟩) hK ((Foc.rgt _ _ []).subP hP) 0 rfl rfl rfl hl.1 rfl (Nat.le_of_ble_eq_true rfl) ⟨by omega, by omega⟩ dL_law_1325 ?_
  refine lv_iload hx hb dL_law_1328 (lv_at hl 1 rfl) ?_
  have st := st_isWaiting hG hn z1
  have hk := st.code
  refine lv_icmp_eq (tgt := 1335) hx hb dL_law_1330 (by decide) (fun _ => ?_) (fun c1 => absurd hk c1)
  generalize hcd : (chkB (inN z1 N) "java/lang/IndexOutOfBoundsException") = cd at st hP hD hl
  cases cd with
  | none =>
    obtain ⟨eV, hG1⟩ := st.n
    refine lv_iload hx hb dL_law_1335 (lv_at hl 1 rfl) ?_
    refine lv_if_ne (tgt := 1359) hx hb dL_law_1337 (by decide) (fun c1 => absurd rfl c1) (fun _ => ?_)
    have hP : va_P D vwCl ((OUT T ob (vp_updL fo 0 ((if ((decide ((O 0) 8 z1.toNatClampNeg = 0))) then 1 else 0))) :: WIN T v B O g ln un nx pl f0 f1 f2) ++ REF T b (yS y 3 (if inN z1 N then 0 else 1)) w) H := hP
    have hD : va_D A ((OUT T ob (vp_updL fo 0 ((if ((decide ((O 0) 8 z1.toNatClampNeg = 0))) then 1 else 0))) :: WIN T v B O g ln un nx pl f0 f1 f2) ++ REF T b (yS y 3 (if inN z1 N then 0 else 1)) w) := hD
    refine lv_aload_n hx hb dL_law_1340 rfl (lv_at hl 5 rfl) ?_
    refine lv_iconst (v := 0) hx hb dL_law_1341 (by decide) ?_
    refine laldO hx hb hK hP dL_law_1342 ?_
    refine lv_iload hx hb dL_law_1343 (lv_at hl 0 rfl) ?_
    have hl : lv_has ls 9 [(6, .int (bI (inN z1 N && decide (y 1 (34 + 7 * z1.toNatClampNeg + 4) = 0)))), (5, .int (kC "java/lang/IndexOutOfBoundsException" none)), (0, .ref sc), (1, .ref (v 0)), (2, .ref (b 0)), (3, .ref ob), (4, .int (nI i))] := hl
    generalize (inN z1 N && decide (y 1 (34 + 7 * z1.toNatClampNeg + 4) = 0)) = cb at eV hl ⊢
    cases cb with
    | false =>
      have eV : (((if ((decide ((O 0) 8 z1.toNatClampNeg = 0))) then 1 else 0)) : Int64) = (0 : Int64) := eV
      refine lv_if_eq (tgt := 1352) hx hb dL_law_1345 (by decide) (fun _ => ?_) (fun c1 => absurd rfl c1)
      refine lv_lconst (v := 0) hx hb dL_law_1352 rfl ?_
      refine W.lcmp hx hb dL_law_1353 ?_
      refine lv_if_eq (tgt := 1359) hx hb dL_law_1354 (by decide) (fun _ => ?_) (fun c1 => absurd ((lg_cmp_eq _ _).mpr eV) c1)
      refine lv_goto (tgt := 3239) hx hb dL_law_1359 (by decide) ?_
      refine W.widen (k := cells + 5) (n := slots + 30) (by omega) (by omega) ?_
      have hP : va_P D vwCl ((OUT T ob (vp_updL fo 0 ((if ((decide ((O 0) 8 z1.toNatClampNeg = 0))) then 1 else 0))) :: WIN T v B O g ln un nx pl f0 f1 f2) ++ REF T b (yS y 3 (if inN z1 N then 0 else 1)) w) H := hP
      have hD : va_D A ((OUT T ob (vp_updL fo 0 ((if ((decide ((O 0) 8 z1.toNatClampNeg = 0))) then 1 else 0))) :: WIN T v B O g ln un nx pl f0 f1 f2) ++ REF T b (yS y 3 (if inN z1 N then 0 else 1)) w) := hD
      exact kk _ _ _ ⟨O, g, ln, un, nx, pl, f0, f1, f2, (yS y 3 (if inN z1 N then 0 else 1)), w, (vp_updL fo 0 ((if ((decide ((O 0) 8 z1.toNatClampNeg = 0))) then 1 else 0))), hP, hD, hS, hG1, lv_sub hl [2, 3, 4, 5, 6] rfl⟩
    | true =>
      have eV : (((if ((decide ((O 0) 8 z1.toNatClampNeg = 0))) then 1 else 0)) : Int64) = (1 : Int64) := eV
      refine lv_if_eq (tgt := 1352) hx hb dL_law_1345 (by decide) (fun c1 => absurd c1 (by decide)) (fun _ => ?_)
      refine lv_lconst (v := 1) hx hb dL_law_1348 rfl ?_
      refine lv_goto (tgt := 1353) hx hb dL_law_1349 (by decide) ?_
      refine W.lcmp hx hb dL_law_1353 ?_
      refine lv_if_eq (tgt := 1359) hx hb dL_law_1354 (by decide) (fun _ => ?_) (fun c1 => absurd ((lg_cmp_eq _ _).mpr eV) c1)
      refine lv_goto (tgt := 3239) hx hb dL_law_1359 (by decide) ?_
      refine W.widen (k := cells + 5) (n := slots + 30) (by omega) (by omega) ?_
      have hP : va_P D vwCl ((OUT T ob (vp_updL fo 0 ((if ((decide ((O 0) 8 z1.toNatClampNeg = 0))) then 1 else 0))) :: WIN T v B O g ln un nx pl f0 f1 f2) ++ REF T b (yS y 3 (if inN z1 N then 0 else 1)) w) H := hP
      have hD : va_D A ((OUT T ob (vp_updL fo 0 ((if ((decide ((O 0) 8 z1.toNatClampNeg = 0))) then 1 else 0))) :: WIN T v B O g ln un nx pl f0 f1 f2) ++ REF T b (yS y 3 (if inN z1 N then 0 else 1)) w) := hD
      exact kk _ _ _ ⟨O, g, ln, un, nx, pl, f0, f1, f2, (yS y 3 (if inN z1 N then 0 else 1)), w, (vp_updL fo 0 ((if ((decide ((O 0) 8 z1.toNatClampNeg = 0))) then 1 else 0))), hP, hD, hS, hG1, lv_sub hl [2, 3, 4, 5, 6] rfl⟩
  | some E =>
    have hG1 := st.s
    refine lv_iload hx hb dL_law_1335 (lv_at hl 1 rfl) ?_
    refine lv_if_ne (tgt := 1359) hx hb dL_law_1337 (by decide) (fun _ => ?_) (fun c1 => absurd c1 kC_some)
    refine lv_goto (tgt := 3239) hx hb dL_law_1359 (by decide) ?_
    refine W.widen (k := cells + 5) (n := slots + 30) (by omega) (by omega) ?_
    have hP : va_P D vwCl ((OUT T ob fo :: WIN T v B O g ln un nx pl f0 f1 f2) ++ REF T b (yS y 3 (if inN z1 N then 0 else 1)) w) H := hP
    have hD : va_D A ((OUT T ob fo :: WIN T v B O g ln un nx pl f0 f1 f2) ++ REF T b (yS y 3 (if inN z1 N then 0 else 1)) w) := hD
    exact kk _ _ _ ⟨O, g, ln, un, nx, pl, f0, f1, f2, (yS y 3 (if inN z1 N then 0 else 1)), w, fo, hP, hD, hS, hG1, lv_sub hl [2, 3, 4, 5, 6] rfl⟩

set_option maxHeartbeats 4000000 in
set_option maxRecDepth 100000 in
theorem arm_24 (X : LCX p l s m args c D T aK aV A sc L xs) {i : Nat} (hi : i + 6 ≤ L) {H : Heap} {locs : List Loc} {ls : Array Slot} {cells slots : Nat} (hcs : cells + 5 ≤ room_1.cells ∧ slots + 30 ≤ room_1.slots) (h : LST s D T A sc v B b ob i H locs ls) (kk : ∀ (H1 : Heap) (locs1 : List Loc) (ls1 : Array Slot), LST s D T A sc v B b ob i H1 locs1 ls1 → W p l e room_1 s m args below meth c H1 locs1 (cells + 5) (slots + 30) Q (F0 m 3239 ls1 [])) : W p l e room_1 s m args below meth c H locs cells slots Q (F0 m 1362 ls []) := by
  obtain ⟨hl9, hx, hb, hml, hown, hts, hX, hsc, hscA, hA, hC, hN, hK, hL⟩ := X
  obtain ⟨O, g, ln, un, nx, pl, f0, f1, f2, y, w, fo, hP, hD, hS, hG, hl⟩ := h
  obtain ⟨N, K, C, nt, hn, h9⟩ := id hG.1
  obtain ⟨z1, hz1⟩ : ∃ z, xs (i + 1) = z := ⟨_, rfl⟩
  refine lv_aload_n hx hb dL_law_1362 rfl (lv_at hl 1 rfl) ?_
  refine lv_aload_n hx hb dL_law_1363 rfl (lv_at hl 0 rfl) ?_
  refine lv_iload hx hb dL_law_1364 (lv_at hl 4 rfl) ?_
  refine lv_iconst (v := 1) hx hb dL_law_1366 (by decide) ?_
  refine lv_iadd hx hb dL_law_1367 ?_
  refine endI (r := nI (i + 1)) (nI_add i 1) ?_
  refine sldN hx hb hX hsc hscA hS hz1 (by omega) hL dL_law_1368 ?_
  refine lv_aload_n hx hb dL_law_1369 rfl (lv_at hl 3 rfl) ?_
  refine wlSi (As := [.ref (v 0), .int z1, .ref ob]) (rest := []) ⟨hx, hb, hml, hown, hts⟩ (c_L_isAnswered l hl9 D T aK aV v B O g ln un nx pl f0 f1 f2 ob fo z1 N K C nt hn.oi _) (vx_cwSW 3 hts gl_L_isAnswered rfl rfl rfl (by decide +kernel) ⟨Nat.le_of_ble_eq_true rfl, Nat.le_of_ble_eq_true rfl⟩) (Foc.lft _ _ _) hC hN hK hP hD hS hA rfl hl.1 rfl (Nat.le_of_ble_eq_true rfl) ⟨by omega, by omega⟩ dL_law_1370 (fun H locs hP hD hS => ?_)
  refine lv_istore (lv' := [(5, .int (kC "java/lang/IndexOutOfBoundsException" (chkB (inN z1 N) "java/lang/IndexOutOfBoundsException"))), (0, .ref sc), (1, .ref (v 0)), (2, .ref (b 0)), (3, .ref ob), (4, .int (nI i))]) hx hb dL_law_1373 hl (by decide) rfl (fun ls hl => ?_)
  refine lv_aload_n hx hb dL_law_1375 rfl (lv_at hl 3 rfl) ?_
  refine lv_aload_n hx hb dL_law_1376 rfl (lv_at hl 1 rfl) ?_
  refine lv_iload hx hb dL_law_1377 (lv_at hl 5 rfl) ?_
  refine lv_iconst (v := 1) hx hb dL_law_1379 (by decide) ?_
  refine lv_iadd hx hb dL_law_1380 ?_
  refine endI (r := nI (i + 1)) (nI_add i 1) ?_
  refine sldN hx hb hX hsc hscA hS hz1 (by omega) hL dL_law_1381 ?_
  refine wrVi (As := [.int z1]) (rest := []) ⟨hx, hb, hml, hown, hts⟩ (c_X10_isAnswered l D T b y w z1 N K C nt hn.ri _) (cwV 1 hts gl_X10_isAnswered rfl rfl rfl (by decide +kernel) ⟨Nat.le_of_ble_eq_true rfl, Nat.le_of_ble_eq_true rfl⟩) (Foc.rgt _ _ _) hK hP hD hS hA 0 rfl rfl rfl hl.1 rfl (Nat.le_of_ble_eq_true rfl) ⟨by omega, by omega⟩ dL_law_1382 (fun H locs hP hD hS => ?_)
  refine lv_istore (lv' := [(6, .int (bI (inN z1 N && decide (y 1 (34 + 7 * z1.toNatClampNeg + 4) = 1)))), (5, .int (kC "java/lang/IndexOutOfBoundsException" (chkB (inN z1 N) "java/lang/IndexOutOfBoundsException"))), (0, .ref sc), (1, .ref (v 0)), (2, .ref (b 0)), (3, .ref ob), (4, .int (nI i))]) hx hb dL_law_1385 hl (by decide) rfl (fun ls hl => ?_)
  refine lv_aload_n hx hb dL_law_1387 rfl (lv_at hl 4 rfl) ?_
  refine rdV (As := []) (rest := []) ⟨hx, hb, hml, hown, hts⟩ (c_X10_thrown l D T b (yS y 3 (if inN z1 N then 0 else 1)) w) (cwV 0 hts gl_X10_thrown rfl rfl rfl (by decide +kernel) ⟨Nat.le_of_ble_eq_true rfl, Nat.le_of_ble_eq_true rfl⟩) hK ((Foc.rgt _ _ []).subP hP) 0 rfl rfl rfl hl.1 rfl (Nat.le_of_ble_eq_true rfl) ⟨by omega, by omega⟩ dL_law_1388 ?_
  refine lv_iload hx hb dL_law_1391 (lv_at hl 1 rfl) ?_
  have st := st_isAnswered hG hn z1
  have hk := st.code
  refine lv_icmp_eq (tgt := 1398) hx hb dL_law_1393 (by decide) (fun _ => ?_) (fun c1 => absurd hk c1)
  generalize hcd : (chkB (inN z1 N) "java/lang/IndexOutOfBoundsException") = cd at st hP hD hl
  cases cd with
  | none =>
    obtain ⟨eV, hG1⟩ := st.n
    refine lv_iload hx hb dL_law_1398 (lv_at hl 1 rfl) ?_
    refine lv_if_ne (tgt := 1422) hx hb dL_law_1400 (by decide) (fun c1 => absurd rfl c1) (fun _ => ?_)
    have hP : va_P D vwCl ((OUT T ob (vp_updL fo 0 ((if ((decide ((O 0) 8 z1.toNatClampNeg = 1))) then 1 else 0))) :: WIN T v B O g ln un nx pl f0 f1 f2) ++ REF T b (yS y 3 (if inN z1 N then 0 else 1)) w) H := hP
    have hD : va_D A ((OUT T ob (vp_updL fo 0 ((if ((decide ((O 0) 8 z1.toNatClampNeg = 1))) then 1 else 0))) :: WIN T v B O g ln un nx pl f0 f1 f2) ++ REF T b (yS y 3 (if inN z1 N then 0 else 1)) w) := hD
    refine lv_aload_n hx hb dL_law_1403 rfl (lv_at hl 5 rfl) ?_
    refine lv_iconst (v := 0) hx hb dL_law_1404 (by decide) ?_
    refine laldO hx hb hK hP dL_law_1405 ?_
    refine lv_iload hx hb dL_law_1406 (lv_at hl 0 rfl) ?_
    have hl : lv_has ls 9 [(6, .int (bI (inN z1 N && decide (y 1 (34 + 7 * z1.toNatClampNeg + 4) = 1)))), (5, .int (kC "java/lang/IndexOutOfBoundsException" none)), (0, .ref sc), (1, .ref (v 0)), (2, .ref (b 0)), (3, .ref ob), (4, .int (nI i))] := hl
    generalize (inN z1 N && decide (y 1 (34 + 7 * z1.toNatClampNeg + 4) = 1)) = cb at eV hl ⊢
    cases cb with
    | false =>
      have eV : (((if ((decide ((O 0) 8 z1.toNatClampNeg = 1))) then 1 else 0)) : Int64) = (0 : Int64) := eV
      refine lv_if_eq (tgt := 1415) hx hb dL_law_1408 (by decide) (fun _ => ?_) (fun c1 => absurd rfl c1)
      refine lv_lconst (v := 0) hx hb dL_law_1415 rfl ?_
      refine W.lcmp hx hb dL_law_1416 ?_
      refine lv_if_eq (tgt := 1422) hx hb dL_law_1417 (by decide) (fun _ => ?_) (fun c1 => absurd ((lg_cmp_eq _ _).mpr eV) c1)
      refine lv_goto (tgt := 3239) hx hb dL_law_1422 (by decide) ?_
      refine W.widen (k := cells + 5) (n := slots + 30) (by omega) (by omega) ?_
      have hP : va_P D vwCl ((OUT T ob (vp_updL fo 0 ((if ((decide ((O 0) 8 z1.toNatClampNeg = 1))) then 1 else 0))) :: WIN T v B O g ln un nx pl f0 f1 f2) ++ REF T b (yS y 3 (if inN z1 N then 0 else 1)) w) H := hP
      have hD : va_D A ((OUT T ob (vp_updL fo 0 ((if ((decide ((O 0) 8 z1.toNatClampNeg = 1))) then 1 else 0))) :: WIN T v B O g ln un nx pl f0 f1 f2) ++ REF T b (yS y 3 (if inN z1 N then 0 else 1)) w) := hD
      exact kk _ _ _ ⟨O, g, ln, un, nx, pl, f0, f1, f2, (yS y 3 (if inN z1 N then 0 else 1)), w, (vp_updL fo 0 ((if ((decide ((O 0) 8 z1.toNatClampNeg = 1))) then 1 else 0))), hP, hD, hS, hG1, lv_sub hl [2, 3, 4, 5, 6] rfl⟩
    | true =>
      have eV : (((if ((decide ((O 0) 8 z1.toNatClampNeg = 1))) then 1 else 0)) : Int64) = (1 : Int64) := eV
      refine lv_if_eq (tgt := 1415) hx hb dL_law_1408 (by decide) (fun c1 => absurd c1 (by decide)) (fun _ => ?_)
      refine lv_lconst (v := 1) hx hb dL_law_1411 rfl ?_
      refine lv_goto (tgt := 1416) hx hb dL_law_1412 (by decide) ?_
      refine W.lcmp hx hb dL_law_1416 ?_
      refine lv_if_eq (tgt := 1422) hx hb dL_law_1417 (by decide) (fun _ => ?_) (fun c1 => absurd ((lg_cmp_eq _ _).mpr eV) c1)
      refine lv_goto (tgt := 3239) hx hb dL_law_1422 (by decide) ?_
      refine W.widen (k := cells + 5) (n := slots + 30) (by omega) (by omega) ?_
      have hP : va_P D vwCl ((OUT T ob (vp_updL fo 0 ((if ((decide ((O 0) 8 z1.toNatClampNeg = 1))) then 1 else 0))) :: WIN T v B O g ln un nx pl f0 f1 f2) ++ REF T b (yS y 3 (if inN z1 N then 0 else 1)) w) H := hP
      have hD : va_D A ((OUT T ob (vp_updL fo 0 ((if ((decide ((O 0) 8 z1.toNatClampNeg = 1))) then 1 else 0))) :: WIN T v B O g ln un nx pl f0 f1 f2) ++ REF T b (yS y 3 (if inN z1 N then 0 else 1)) w) := hD
      exact kk _ _ _ ⟨O, g, ln, un, nx, pl, f0, f1, f2, (yS y 3 (if inN z1 N then 0 else 1)), w, (vp_updL fo 0 ((if ((decide ((O 0) 8 z1.toNatClampNeg = 1))) then 1 else 0))), hP, hD, hS, hG1, lv_sub hl [2, 3, 4, 5, 6] rfl⟩
  | some E =>
    have hG1 := st.s
    refine lv_iload hx hb dL_law_1398 (lv_at hl 1 rfl) ?_
    refine lv_if_ne (tgt := 1422) hx hb dL_law_1400 (by decide) (fun _ => ?_) (fun c1 => absurd c1 kC_some)
    refine lv_goto (tgt := 3239) hx hb dL_law_1422 (by decide) ?_
    refine W.widen (k := cells + 5) (n := slots + 30) (by omega) (by omega) ?_
    have hP : va_P D vwCl ((OUT T ob fo :: WIN T v B O g ln un nx pl f0 f1 f2) ++ REF T b (yS y 3 (if inN z1 N then 0 else 1)) w) H := hP
    have hD : va_D A ((OUT T ob fo :: WIN T v B O g ln un nx pl f0 f1 f2) ++ REF T b (yS y 3 (if inN z1 N then 0 else 1)) w) := hD
    exact kk _ _ _ ⟨O, g, ln, un, nx, pl, f0, f1, f2, (yS y 3 (if inN z1 N then 0 else 1)), w, fo, hP, hD, hS, hG1, lv_sub hl [2, 3, 4, 5, 6] rfl⟩

set_option maxHeartbeats 4000000 in
set_option maxRecDepth 100000 in
theorem arm_25 (X : LCX p l s m args c D T aK aV A sc L xs) {i : Nat} (hi : i + 6 ≤ L) {H : Heap} {locs : List Loc} {ls : Array Slot} {cells slots : Nat} (hcs : cells + 5 ≤ room_1.cells ∧ slots + 30 ≤ room_1.slots) (h : LST s D T A sc v B b ob i H locs ls) (kk : ∀ (H1 : Heap) (locs1 : List Loc) (ls1 : Array Slot), LST s D T A sc v B b ob i H1 locs1 ls1 → W p l e room_1 s m args below meth c H1 locs1 (cells + 5) (slots + 30) Q (F0 m 3239 ls1 [])) : W p l e room_1 s m args below meth c H locs cells slots Q (F0 m 1425 ls []) := by
  obtain ⟨hl9, hx, hb, hml, hown, hts, hX, hsc, hscA, hA, hC, hN, hK, hL⟩ := X
  obtain ⟨O, g, ln, un, nx, pl, f0, f1, f2, y, w, fo, hP, hD, hS, hG, hl⟩ := h
  obtain ⟨N, K, C, nt, hn, h9⟩ := id hG.1
  obtain ⟨z1, hz1⟩ : ∃ z, xs (i + 1) = z := ⟨_, rfl⟩
  refine lv_aload_n hx hb dL_law_1425 rfl (lv_at hl 1 rfl) ?_
  refine lv_aload_n hx hb dL_law_1426 rfl (lv_at hl 0 rfl) ?_
  refine lv_iload hx hb dL_law_1427 (lv_at hl 4 rfl) ?_
  refine lv_iconst (v := 1) hx hb dL_law_1429 (by decide) ?_
  refine lv_iadd hx hb dL_law_1430 ?_
  refine endI (r := nI (i + 1)) (nI_add i 1) ?_
  refine sldN hx hb hX hsc hscA hS hz1 (by omega) hL dL_law_1431 ?_
  refine lv_aload_n hx hb dL_law_1432 rfl (lv_at hl 3 rfl) ?_
  refine wlSi (As := [.ref (v 0), .int z1, .ref ob]) (rest := []) ⟨hx, hb, hml, hown, hts⟩ (c_L_isDismissed l hl9 D T aK aV v B O g ln un nx pl f0 f1 f2 ob fo z1 N K C nt hn.oi _) (vx_cwSW 3 hts gl_L_isDismissed rfl rfl rfl (by decide +kernel) ⟨Nat.le_of_ble_eq_true rfl, Nat.le_of_ble_eq_true rfl⟩) (Foc.lft _ _ _) hC hN hK hP hD hS hA rfl hl.1 rfl (Nat.le_of_ble_eq_true rfl) ⟨by omega, by omega⟩ dL_law_1433 (fun H locs hP hD hS => ?_)
  refine lv_istore (lv' := [(5, .int (kC "java/lang/IndexOutOfBoundsException" (chkB (inN z1 N) "java/lang/IndexOutOfBoundsException"))), (0, .ref sc), (1, .ref (v 0)), (2, .ref (b 0)), (3, .ref ob), (4, .int (nI i))]) hx hb dL_law_1436 hl (by decide) rfl (fun ls hl => ?_)
  refine lv_aload_n hx hb dL_law_1438 rfl (lv_at hl 3 rfl) ?_
  refine lv_aload_n hx hb dL_law_1439 rfl (lv_at hl 1 rfl) ?_
  refine lv_iload hx hb dL_law_1440 (lv_at hl 5 rfl) ?_
  refine lv_iconst (v := 1) hx hb dL_law_1442 (by decide) ?_
  refine lv_iadd hx hb dL_law_1443 ?_
  refine endI (r := nI (i + 1)) (nI_add i 1) ?_
  refine sldN hx hb hX hsc hscA hS hz1 (by omega) hL dL_law_1444 ?_
  refine wrVi (As := [.int z1]) (rest := []) ⟨hx, hb, hml, hown, hts⟩ (c_X10_isDismissed l D T b y w z1 N K C nt hn.ri _) (cwV 1 hts gl_X10_isDismissed rfl rfl rfl (by decide +kernel) ⟨Nat.le_of_ble_eq_true rfl, Nat.le_of_ble_eq_true rfl⟩) (Foc.rgt _ _ _) hK hP hD hS hA 0 rfl rfl rfl hl.1 rfl (Nat.le_of_ble_eq_true rfl) ⟨by omega, by omega⟩ dL_law_1445 (fun H locs hP hD hS => ?_)
  refine lv_istore (lv' := [(6, .int (bI (inN z1 N && decide (y 1 (34 + 7 * z1.toNatClampNeg + 4) = 2)))), (5, .int (kC "java/lang/IndexOutOfBoundsException" (chkB (inN z1 N) "java/lang/IndexOutOfBoundsException"))), (0, .ref sc), (1, .ref (v 0)), (2, .ref (b 0)), (3, .ref ob), (4, .int (nI i))]) hx hb dL_law_1448 hl (by decide) rfl (fun ls hl => ?_)
  refine lv_aload_n hx hb dL_law_1450 rfl (lv_at hl 4 rfl) ?_
  refine rdV (As := []) (rest := []) ⟨hx, hb, hml, hown, hts⟩ (c_X10_thrown l D T b (yS y 3 (if inN z1 N then 0 else 1)) w) (cwV 0 hts gl_X10_thrown rfl rfl rfl (by decide +kernel) ⟨Nat.le_of_ble_eq_true rfl, Nat.le_of_ble_eq_true rfl⟩) hK ((Foc.rgt _ _ []).subP hP) 0 rfl rfl rfl hl.1 rfl (Nat.le_of_ble_eq_true rfl) ⟨by omega, by omega⟩ dL_law_1451 ?_
  refine lv_iload hx hb dL_law_1454 (lv_at hl 1 rfl) ?_
  have st := st_isDismissed hG hn z1
  have hk := st.code
  refine lv_icmp_eq (tgt := 1461) hx hb dL_law_1456 (by decide) (fun _ => ?_) (fun c1 => absurd hk c1)
  generalize hcd : (chkB (inN z1 N) "java/lang/IndexOutOfBoundsException") = cd at st hP hD hl
  cases cd with
  | none =>
    obtain ⟨eV, hG1⟩ := st.n
    refine lv_iload hx hb dL_law_1461 (lv_at hl 1 rfl) ?_
    refine lv_if_ne (tgt := 1485) hx hb dL_law_1463 (by decide) (fun c1 => absurd rfl c1) (fun _ => ?_)
    have hP : va_P D vwCl ((OUT T ob (vp_updL fo 0 ((if ((decide ((O 0) 8 z1.toNatClampNeg = 2))) then 1 else 0))) :: WIN T v B O g ln un nx pl f0 f1 f2) ++ REF T b (yS y 3 (if inN z1 N then 0 else 1)) w) H := hP
    have hD : va_D A ((OUT T ob (vp_updL fo 0 ((if ((decide ((O 0) 8 z1.toNatClampNeg = 2))) then 1 else 0))) :: WIN T v B O g ln un nx pl f0 f1 f2) ++ REF T b (yS y 3 (if inN z1 N then 0 else 1)) w) := hD
    refine lv_aload_n hx hb dL_law_1466 rfl (lv_at hl 5 rfl) ?_
    refine lv_iconst (v := 0) hx hb dL_law_1467 (by decide) ?_
    refine laldO hx hb hK hP dL_law_1468 ?_
    refine lv_iload hx hb dL_law_1469 (lv_at hl 0 rfl) ?_
    have hl : lv_has ls 9 [(6, .int (bI (inN z1 N && decide (y 1 (34 + 7 * z1.toNatClampNeg + 4) = 2)))), (5, .int (kC "java/lang/IndexOutOfBoundsException" none)), (0, .ref sc), (1, .ref (v 0)), (2, .ref (b 0)), (3, .ref ob), (4, .int (nI i))] := hl
    generalize (inN z1 N && decide (y 1 (34 + 7 * z1.toNatClampNeg + 4) = 2)) = cb at eV hl ⊢
    cases cb with
    | false =>
      have eV : (((if ((decide ((O 0) 8 z1.toNatClampNeg = 2))) then 1 else 0)) : Int64) = (0 : Int64) := eV
      refine lv_if_eq (tgt := 1478) hx hb dL_law_1471 (by decide) (fun _ => ?_) (fun c1 => absurd rfl c1)
      refine lv_lconst (v := 0) hx hb dL_law_1478 rfl ?_
      refine W.lcmp hx hb dL_law_1479 ?_
      refine lv_if_eq (tgt := 1485) hx hb dL_law_1480 (by decide) (fun _ => ?_) (fun c1 => absurd ((lg_cmp_eq _ _).mpr eV) c1)
      refine lv_goto (tgt := 3239) hx hb dL_law_1485 (by decide) ?_
      refine W.widen (k := cells + 5) (n := slots + 30) (by omega) (by omega) ?_
      have hP : va_P D vwCl ((OUT T ob (vp_updL fo 0 ((if ((decide ((O 0) 8 z1.toNatClampNeg = 2))) then 1 else 0))) :: WIN T v B O g ln un nx pl f0 f1 f2) ++ REF T b (yS y 3 (if inN z1 N then 0 else 1)) w) H := hP
      have hD : va_D A ((OUT T ob (vp_updL fo 0 ((if ((decide ((O 0) 8 z1.toNatClampNeg = 2))) then 1 else 0))) :: WIN T v B O g ln un nx pl f0 f1 f2) ++ REF T b (yS y 3 (if inN z1 N then 0 else 1)) w) := hD
      exact kk _ _ _ ⟨O, g, ln, un, nx, pl, f0, f1, f2, (yS y 3 (if inN z1 N then 0 else 1)), w, (vp_updL fo 0 ((if ((decide ((O 0) 8 z1.toNatClampNeg = 2))) then 1 else 0))), hP, hD, hS, hG1, lv_sub hl [2, 3, 4, 5, 6] rfl⟩
    | true =>
      have eV : (((if ((decide ((O 0) 8 z1.toNatClampNeg = 2))) then 1 else 0)) : Int64) = (1 : Int64) := eV
      refine lv_if_eq (tgt := 1478) hx hb dL_law_1471 (by decide) (fun c1 => absurd c1 (by decide)) (fun _ => ?_)
      refine lv_lconst (v := 1) hx hb dL_law_1474 rfl ?_
      refine lv_goto (tgt := 1479) hx hb dL_law_1475 (by decide) ?_
      refine W.lcmp hx hb dL_law_1479 ?_
      refine lv_if_eq (tgt := 1485) hx hb dL_law_1480 (by decide) (fun _ => ?_) (fun c1 => absurd ((lg_cmp_eq _ _).mpr eV) c1)
      refine lv_goto (tgt := 3239) hx hb dL_law_1485 (by decide) ?_
      refine W.widen (k := cells + 5) (n := slots + 30) (by omega) (by omega) ?_
      have hP : va_P D vwCl ((OUT T ob (vp_updL fo 0 ((if ((decide ((O 0) 8 z1.toNatClampNeg = 2))) then 1 else 0))) :: WIN T v B O g ln un nx pl f0 f1 f2) ++ REF T b (yS y 3 (if inN z1 N then 0 else 1)) w) H := hP
      have hD : va_D A ((OUT T ob (vp_updL fo 0 ((if ((decide ((O 0) 8 z1.toNatClampNeg = 2))) then 1 else 0))) :: WIN T v B O g ln un nx pl f0 f1 f2) ++ REF T b (yS y 3 (if inN z1 N then 0 else 1)) w) := hD
      exact kk _ _ _ ⟨O, g, ln, un, nx, pl, f0, f1, f2, (yS y 3 (if inN z1 N then 0 else 1)), w, (vp_updL fo 0 ((if ((decide ((O 0) 8 z1.toNatClampNeg = 2))) then 1 else 0))), hP, hD, hS, hG1, lv_sub hl [2, 3, 4, 5, 6] rfl⟩
  | some E =>
    have hG1 := st.s
    refine lv_iload hx hb dL_law_1461 (lv_at hl 1 rfl) ?_
    refine lv_if_ne (tgt := 1485) hx hb dL_law_1463 (by decide) (fun _ => ?_) (fun c1 => absurd c1 kC_some)
    refine lv_goto (tgt := 3239) hx hb dL_law_1485 (by decide) ?_
    refine W.widen (k := cells + 5) (n := slots + 30) (by omega) (by omega) ?_
    have hP : va_P D vwCl ((OUT T ob fo :: WIN T v B O g ln un nx pl f0 f1 f2) ++ REF T b (yS y 3 (if inN z1 N then 0 else 1)) w) H := hP
    have hD : va_D A ((OUT T ob fo :: WIN T v B O g ln un nx pl f0 f1 f2) ++ REF T b (yS y 3 (if inN z1 N then 0 else 1)) w) := hD
    exact kk _ _ _ ⟨O, g, ln, un, nx, pl, f0, f1, f2, (yS y 3 (if inN z1 N then 0 else 1)), w, fo, hP, hD, hS, hG1, lv_sub hl [2, 3, 4, 5, 6] rfl⟩

set_option maxHeartbeats 4000000 in
set_option maxRecDepth 100000 in
theorem arm_26 (X : LCX p l s m args c D T aK aV A sc L xs) {i : Nat} (hi : i + 6 ≤ L) {H : Heap} {locs : List Loc} {ls : Array Slot} {cells slots : Nat} (hcs : cells + 5 ≤ room_1.cells ∧ slots + 30 ≤ room_1.slots) (h : LST s D T A sc v B b ob i H locs ls) (kk : ∀ (H1 : Heap) (locs1 : List Loc) (ls1 : Array Slot), LST s D T A sc v B b ob i H1 locs1 ls1 → W p l e room_1 s m args below meth c H1 locs1 (cells + 5) (slots + 30) Q (F0 m 3239 ls1 [])) : W p l e room_1 s m args below meth c H locs cells slots Q (F0 m 1488 ls []) := by
  obtain ⟨hl9, hx, hb, hml, hown, hts, hX, hsc, hscA, hA, hC, hN, hK, hL⟩ := X
  obtain ⟨O, g, ln, un, nx, pl, f0, f1, f2, y, w, fo, hP, hD, hS, hG, hl⟩ := h
  obtain ⟨N, K, C, nt, hn, h9⟩ := id hG.1
  obtain ⟨z1, hz1⟩ : ∃ z, xs (i + 1) = z := ⟨_, rfl⟩
  refine lv_aload_n hx hb dL_law_1488 rfl (lv_at hl 1 rfl) ?_
  refine lv_aload_n hx hb dL_law_1489 rfl (lv_at hl 0 rfl) ?_
  refine lv_iload hx hb dL_law_1490 (lv_at hl 4 rfl) ?_
  refine lv_iconst (v := 1) hx hb dL_law_1492 (by decide) ?_
  refine lv_iadd hx hb dL_law_1493 ?_
  refine endI (r := nI (i + 1)) (nI_add i 1) ?_
  refine sldN hx hb hX hsc hscA hS hz1 (by omega) hL dL_law_1494 ?_
  refine lv_aload_n hx hb dL_law_1495 rfl (lv_at hl 3 rfl) ?_
  refine wlSi (As := [.ref (v 0), .int z1, .ref ob]) (rest := []) ⟨hx, hb, hml, hown, hts⟩ (c_L_isGivenUp l hl9 D T aK aV v B O g ln un nx pl f0 f1 f2 ob fo z1 N K C nt hn.oi _) (vx_cwSW 3 hts gl_L_isGivenUp rfl rfl rfl (by decide +kernel) ⟨Nat.le_of_ble_eq_true rfl, Nat.le_of_ble_eq_true rfl⟩) (Foc.lft _ _ _) hC hN hK hP hD hS hA rfl hl.1 rfl (Nat.le_of_ble_eq_true rfl) ⟨by omega, by omega⟩ dL_law_1496 (fun H locs hP hD hS => ?_)
  refine lv_istore (lv' := [(5, .int (kC "java/lang/IndexOutOfBoundsException" (chkB (inN z1 N) "java/lang/IndexOutOfBoundsException"))), (0, .ref sc), (1, .ref (v 0)), (2, .ref (b 0)), (3, .ref ob), (4, .int (nI i))]) hx hb dL_law_1499 hl (by decide) rfl (fun ls hl => ?_)
  refine lv_aload_n hx hb dL_law_1501 rfl (lv_at hl 3 rfl) ?_
  refine lv_aload_n hx hb dL_law_1502 rfl (lv_at hl 1 rfl) ?_
  refine lv_iload hx hb dL_law_1503 (lv_at hl 5 rfl) ?_
  refine lv_iconst (v := 1) hx hb dL_law_1505 (by decide) ?_
  refine lv_iadd hx hb dL_law_1506 ?_
  refine endI (r := nI (i + 1)) (nI_add i 1) ?_
  refine sldN hx hb hX hsc hscA hS hz1 (by omega) hL dL_law_1507 ?_
  refine wrVi (As := [.int z1]) (rest := []) ⟨hx, hb, hml, hown, hts⟩ (c_X10_isGivenUp l D T b y w z1 N K C nt hn.ri _) (cwV 1 hts gl_X10_isGivenUp rfl rfl rfl (by decide +kernel) ⟨Nat.le_of_ble_eq_true rfl, Nat.le_of_ble_eq_true rfl⟩) (Foc.rgt _ _ _) hK hP hD hS hA 0 rfl rfl rfl hl.1 rfl (Nat.le_of_ble_eq_true rfl) ⟨by omega, by omega⟩ dL_law_1508 (fun H locs hP hD hS => ?_)
  refine lv_istore (lv' := [(6, .int (bI (inN z1 N && decide (y 1 (34 + 7 * z1.toNatClampNeg + 4) = 3)))), (5, .int (kC "java/lang/IndexOutOfBoundsException" (chkB (inN z1 N) "java/lang/IndexOutOfBoundsException"))), (0, .ref sc), (1, .ref (v 0)), (2, .ref (b 0)), (3, .ref ob), (4, .int (nI i))]) hx hb dL_law_1511 hl (by decide) rfl (fun ls hl => ?_)
  refine lv_aload_n hx hb dL_law_1513 rfl (lv_at hl 4 rfl) ?_
  refine rdV (As := []) (rest := []) ⟨hx, hb, hml, hown, hts⟩ (c_X10_thrown l D T b (yS y 3 (if inN z1 N then 0 else 1)) w) (cwV 0 hts gl_X10_thrown rfl rfl rfl (by decide +kernel) ⟨Nat.le_of_ble_eq_true rfl, Nat.le_of_ble_eq_true rfl⟩) hK ((Foc.rgt _ _ []).subP hP) 0 rfl rfl rfl hl.1 rfl (Nat.le_of_ble_eq_true rfl) ⟨by omega, by omega⟩ dL_law_1514 ?_
  refine lv_iload hx hb dL_law_1517 (lv_at hl 1 rfl) ?_
  have st := st_isGivenUp hG hn z1
  have hk := st.code
  refine lv_icmp_eq (tgt := 1524) hx hb dL_law_1519 (by decide) (fun _ => ?_) (fun c1 => absurd hk c1)
  generalize hcd : (chkB (inN z1 N) "java/lang/IndexOutOfBoundsException") = cd at st hP hD hl
  cases cd with
  | none =>
    obtain ⟨eV, hG1⟩ := st.n
    refine lv_iload hx hb dL_law_1524 (lv_at hl 1 rfl) ?_
    refine lv_if_ne (tgt := 1548) hx hb dL_law_1526 (by decide) (fun c1 => absurd rfl c1) (fun _ => ?_)
    have hP : va_P D vwCl ((OUT T ob (vp_updL fo 0 ((if ((decide ((O 0) 8 z1.toNatClampNeg = 3))) then 1 else 0))) :: WIN T v B O g ln un nx pl f0 f1 f2) ++ REF T b (yS y 3 (if inN z1 N then 0 else 1)) w) H := hP
    have hD : va_D A ((OUT T ob (vp_updL fo 0 ((if ((decide ((O 0) 8 z1.toNatClampNeg = 3))) then 1 else 0))) :: WIN T v B O g ln un nx pl f0 f1 f2) ++ REF T b (yS y 3 (if inN z1 N then 0 else 1)) w) := hD
    refine lv_aload_n hx hb dL_law_1529 rfl (lv_at hl 5 rfl) ?_
    refine lv_iconst (v := 0) hx hb dL_law_1530 (by decide) ?_
    refine laldO hx hb hK hP dL_law_1531 ?_
    refine lv_iload hx hb dL_law_1532 (lv_at hl 0 rfl) ?_
    have hl : lv_has ls 9 [(6, .int (bI (inN z1 N && decide (y 1 (34 + 7 * z1.toNatClampNeg + 4) = 3)))), (5, .int (kC "java/lang/IndexOutOfBoundsException" none)), (0, .ref sc), (1, .ref (v 0)), (2, .ref (b 0)), (3, .ref ob), (4, .int (nI i))] := hl
    generalize (inN z1 N && decide (y 1 (34 + 7 * z1.toNatClampNeg + 4) = 3)) = cb at eV hl ⊢
    cases cb with
    | false =>
      have eV : (((if ((decide ((O 0) 8 z1.toNatClampNeg = 3))) then 1 else 0)) : Int64) = (0 : Int64) := eV
      refine lv_if_eq (tgt := 1541) hx hb dL_law_1534 (by decide) (fun _ => ?_) (fun c1 => absurd rfl c1)
      refine lv_lconst (v := 0) hx hb dL_law_1541 rfl ?_
      refine W.lcmp hx hb dL_law_1542 ?_
      refine lv_if_eq (tgt := 1548) hx hb dL_law_1543 (by decide) (fun _ => ?_) (fun c1 => absurd ((lg_cmp_eq _ _).mpr eV) c1)
      refine lv_goto (tgt := 3239) hx hb dL_law_1548 (by decide) ?_
      refine W.widen (k := cells + 5) (n := slots + 30) (by omega) (by omega) ?_
      have hP : va_P D vwCl ((OUT T ob (vp_updL fo 0 ((if ((decide ((O 0) 8 z1.toNatClampNeg = 3))) then 1 else 0))) :: WIN T v B O g ln un nx pl f0 f1 f2) ++ REF T b (yS y 3 (if inN z1 N then 0 else 1)) w) H := hP
      have hD : va_D A ((OUT T ob (vp_updL fo 0 ((if ((decide ((O 0) 8 z1.toNatClampNeg = 3))) then 1 else 0))) :: WIN T v B O g ln un nx pl f0 f1 f2) ++ REF T b (yS y 3 (if inN z1 N then 0 else 1)) w) := hD
      exact kk _ _ _ ⟨O, g, ln, un, nx, pl, f0, f1, f2, (yS y 3 (if inN z1 N then 0 else 1)), w, (vp_updL fo 0 ((if ((decide ((O 0) 8 z1.toNatClampNeg = 3))) then 1 else 0))), hP, hD, hS, hG1, lv_sub hl [2, 3, 4, 5, 6] rfl⟩
    | true =>
      have eV : (((if ((decide ((O 0) 8 z1.toNatClampNeg = 3))) then 1 else 0)) : Int64) = (1 : Int64) := eV
      refine lv_if_eq (tgt := 1541) hx hb dL_law_1534 (by decide) (fun c1 => absurd c1 (by decide)) (fun _ => ?_)
      refine lv_lconst (v := 1) hx hb dL_law_1537 rfl ?_
      refine lv_goto (tgt := 1542) hx hb dL_law_1538 (by decide) ?_
      refine W.lcmp hx hb dL_law_1542 ?_
      refine lv_if_eq (tgt := 1548) hx hb dL_law_1543 (by decide) (fun _ => ?_) (fun c1 => absurd ((lg_cmp_eq _ _).mpr eV) c1)
      refine lv_goto (tgt := 3239) hx hb dL_law_1548 (by decide) ?_
      refine W.widen (k := cells + 5) (n := slots + 30) (by omega) (by omega) ?_
      have hP : va_P D vwCl ((OUT T ob (vp_updL fo 0 ((if ((decide ((O 0) 8 z1.toNatClampNeg = 3))) then 1 else 0))) :: WIN T v B O g ln un nx pl f0 f1 f2) ++ REF T b (yS y 3 (if inN z1 N then 0 else 1)) w) H := hP
      have hD : va_D A ((OUT T ob (vp_updL fo 0 ((if ((decide ((O 0) 8 z1.toNatClampNeg = 3))) then 1 else 0))) :: WIN T v B O g ln un nx pl f0 f1 f2) ++ REF T b (yS y 3 (if inN z1 N then 0 else 1)) w) := hD
      exact kk _ _ _ ⟨O, g, ln, un, nx, pl, f0, f1, f2, (yS y 3 (if inN z1 N then 0 else 1)), w, (vp_updL fo 0 ((if ((decide ((O 0) 8 z1.toNatClampNeg = 3))) then 1 else 0))), hP, hD, hS, hG1, lv_sub hl [2, 3, 4, 5, 6] rfl⟩
  | some E =>
    have hG1 := st.s
    refine lv_iload hx hb dL_law_1524 (lv_at hl 1 rfl) ?_
    refine lv_if_ne (tgt := 1548) hx hb dL_law_1526 (by decide) (fun _ => ?_) (fun c1 => absurd c1 kC_some)
    refine lv_goto (tgt := 3239) hx hb dL_law_1548 (by decide) ?_
    refine W.widen (k := cells + 5) (n := slots + 30) (by omega) (by omega) ?_
    have hP : va_P D vwCl ((OUT T ob fo :: WIN T v B O g ln un nx pl f0 f1 f2) ++ REF T b (yS y 3 (if inN z1 N then 0 else 1)) w) H := hP
    have hD : va_D A ((OUT T ob fo :: WIN T v B O g ln un nx pl f0 f1 f2) ++ REF T b (yS y 3 (if inN z1 N then 0 else 1)) w) := hD
    exact kk _ _ _ ⟨O, g, ln, un, nx, pl, f0, f1, f2, (yS y 3 (if inN z1 N then 0 else 1)), w, fo, hP, hD, hS, hG1, lv_sub hl [2, 3, 4, 5, 6] rfl⟩

set_option maxHeartbeats 4000000 in
set_option maxRecDepth 100000 in
theorem arm_27 (X : LCX p l s m args c D T aK aV A sc L xs) {i : Nat} (hi : i + 6 ≤ L) {H : Heap} {locs : List Loc} {ls : Array Slot} {cells slots : Nat} (hcs : cells + 5 ≤ room_1.cells ∧ slots + 30 ≤ room_1.slots) (h : LST s D T A sc v B b ob i H locs ls) (kk : ∀ (H1 : Heap) (locs1 : List Loc) (ls1 : Array Slot), LST s D T A sc v B b ob i H1 locs1 ls1 → W p l e room_1 s m args below meth c H1 locs1 (cells + 5) (slots + 30) Q (F0 m 3239 ls1 [])) : W p l e room_1 s m args below meth c H locs cells slots Q (F0 m 1551 ls []) := by
  obtain ⟨hl9, hx, hb, hml, hown, hts, hX, hsc, hscA, hA, hC, hN, hK, hL⟩ := X
  obtain ⟨O, g, ln, un, nx, pl, f0, f1, f2, y, w, fo, hP, hD, hS, hG, hl⟩ := h
  obtain ⟨N, K, C, nt, hn, h9⟩ := id hG.1
  obtain ⟨z1, hz1⟩ : ∃ z, xs (i + 1) = z := ⟨_, rfl⟩
  refine lv_aload_n hx hb dL_law_1551 rfl (lv_at hl 1 rfl) ?_
  refine lv_aload_n hx hb dL_law_1552 rfl (lv_at hl 0 rfl) ?_
  refine lv_iload hx hb dL_law_1553 (lv_at hl 4 rfl) ?_
  refine lv_iconst (v := 1) hx hb dL_law_1555 (by decide) ?_
  refine lv_iadd hx hb dL_law_1556 ?_
  refine endI (r := nI (i + 1)) (nI_add i 1) ?_
  refine sldN hx hb hX hsc hscA hS hz1 (by omega) hL dL_law_1557 ?_
  refine lv_aload_n hx hb dL_law_1558 rfl (lv_at hl 3 rfl) ?_
  refine wlSi (As := [.ref (v 0), .int z1, .ref ob]) (rest := []) ⟨hx, hb, hml, hown, hts⟩ (c_L_closedIn l hl9 D T aK aV v B O g ln un nx pl f0 f1 f2 ob fo z1 N K C nt hn.oi _) (vx_cwSW 3 hts gl_L_closedIn rfl rfl rfl (by decide +kernel) ⟨Nat.le_of_ble_eq_true rfl, Nat.le_of_ble_eq_true rfl⟩) (Foc.lft _ _ _) hC hN hK hP hD hS hA rfl hl.1 rfl (Nat.le_of_ble_eq_true rfl) ⟨by omega, by omega⟩ dL_law_1559 (fun H locs hP hD hS => ?_)
  refine lv_istore (lv' := [(5, .int (kC "java/lang/IndexOutOfBoundsException" (orE (chkB (inN z1 N) "java/lang/IndexOutOfBoundsException") (chkB (!decide ((O 0) 8 z1.toNatClampNeg = 0)) "java/util/NoSuchElementException")))), (0, .ref sc), (1, .ref (v 0)), (2, .ref (b 0)), (3, .ref ob), (4, .int (nI i))]) hx hb dL_law_1562 hl (by decide) rfl (fun ls hl => ?_)
  refine lv_aload_n hx hb dL_law_1564 rfl (lv_at hl 3 rfl) ?_
  refine lv_aload_n hx hb dL_law_1565 rfl (lv_at hl 1 rfl) ?_
  refine lv_iload hx hb dL_law_1566 (lv_at hl 5 rfl) ?_
  refine lv_iconst (v := 1) hx hb dL_law_1568 (by decide) ?_
  refine lv_iadd hx hb dL_law_1569 ?_
  refine endI (r := nI (i + 1)) (nI_add i 1) ?_
  refine sldN hx hb hX hsc hscA hS hz1 (by omega) hL dL_law_1570 ?_
  refine wrVi (As := [.int z1]) (rest := []) ⟨hx, hb, hml, hown, hts⟩ (c_X10_closedIn l D T b y w z1 N K C nt hn.ri _) (cwV 1 hts gl_X10_closedIn rfl rfl rfl (by decide +kernel) ⟨Nat.le_of_ble_eq_true rfl, Nat.le_of_ble_eq_true rfl⟩) (Foc.rgt _ _ _) hK hP hD hS hA 0 rfl rfl rfl hl.1 rfl (Nat.le_of_ble_eq_true rfl) ⟨by omega, by omega⟩ dL_law_1571 (fun H locs hP hD hS => ?_)
  refine lv_istore (lv' := [(6, .int (if inN z1 N then (if y 1 (34 + 7 * z1.toNatClampNeg + 4) = 0 then 0 else y 1 (34 + 7 * z1.toNatClampNeg + 5)) else 0)), (5, .int (kC "java/lang/IndexOutOfBoundsException" (orE (chkB (inN z1 N) "java/lang/IndexOutOfBoundsException") (chkB (!decide ((O 0) 8 z1.toNatClampNeg = 0)) "java/util/NoSuchElementException")))), (0, .ref sc), (1, .ref (v 0)), (2, .ref (b 0)), (3, .ref ob), (4, .int (nI i))]) hx hb dL_law_1574 hl (by decide) rfl (fun ls hl => ?_)
  refine lv_aload_n hx hb dL_law_1576 rfl (lv_at hl 4 rfl) ?_
  refine rdV (As := []) (rest := []) ⟨hx, hb, hml, hown, hts⟩ (c_X10_thrown l D T b (yS y 3 (if inN z1 N then (if y 1 (34 + 7 * z1.toNatClampNeg + 4) = 0 then 2 else 0) else 1)) w) (cwV 0 hts gl_X10_thrown rfl rfl rfl (by decide +kernel) ⟨Nat.le_of_ble_eq_true rfl, Nat.le_of_ble_eq_true rfl⟩) hK ((Foc.rgt _ _ []).subP hP) 0 rfl rfl rfl hl.1 rfl (Nat.le_of_ble_eq_true rfl) ⟨by omega, by omega⟩ dL_law_1577 ?_
  refine lv_iload hx hb dL_law_1580 (lv_at hl 1 rfl) ?_
  have st := st_closedIn hG hn z1
  have hk := st.code
  refine lv_icmp_eq (tgt := 1587) hx hb dL_law_1582 (by decide) (fun _ => ?_) (fun c1 => absurd hk c1)
  generalize hcd : (orE (chkB (inN z1 N) "java/lang/IndexOutOfBoundsException") (chkB (!decide ((O 0) 8 z1.toNatClampNeg = 0)) "java/util/NoSuchElementException")) = cd at st hP hD hl
  cases cd with
  | none =>
    obtain ⟨eV, hG1⟩ := st.n
    refine lv_iload hx hb dL_law_1587 (lv_at hl 1 rfl) ?_
    refine lv_if_ne (tgt := 1604) hx hb dL_law_1589 (by decide) (fun c1 => absurd rfl c1) (fun _ => ?_)
    have hP : va_P D vwCl ((OUT T ob (vp_updL fo 0 (((O 0) 9 z1.toNatClampNeg).toInt64)) :: WIN T v B O g ln un nx pl f0 f1 f2) ++ REF T b (yS y 3 (if inN z1 N then (if y 1 (34 + 7 * z1.toNatClampNeg + 4) = 0 then 2 else 0) else 1)) w) H := hP
    have hD : va_D A ((OUT T ob (vp_updL fo 0 (((O 0) 9 z1.toNatClampNeg).toInt64)) :: WIN T v B O g ln un nx pl f0 f1 f2) ++ REF T b (yS y 3 (if inN z1 N then (if y 1 (34 + 7 * z1.toNatClampNeg + 4) = 0 then 2 else 0) else 1)) w) := hD
    refine lv_aload_n hx hb dL_law_1592 rfl (lv_at hl 5 rfl) ?_
    refine lv_iconst (v := 0) hx hb dL_law_1593 (by decide) ?_
    refine laldO hx hb hK hP dL_law_1594 ?_
    refine lv_iload hx hb dL_law_1595 (lv_at hl 0 rfl) ?_
    refine lv_i2l (v := (if inN z1 N then (if y 1 (34 + 7 * z1.toNatClampNeg + 4) = 0 then 0 else y 1 (34 + 7 * z1.toNatClampNeg + 5)) else 0).toInt64) hx hb dL_law_1597 rfl ?_
    refine W.lcmp hx hb dL_law_1598 ?_
    refine lv_if_eq (tgt := 1604) hx hb dL_law_1599 (by decide) (fun _ => ?_) (fun c1 => absurd ((lg_cmp_eq _ _).mpr eV) c1)
    refine lv_goto (tgt := 3239) hx hb dL_law_1604 (by decide) ?_
    refine W.widen (k := cells + 5) (n := slots + 30) (by omega) (by omega) ?_
    have hP : va_P D vwCl ((OUT T ob (vp_updL fo 0 (((O 0) 9 z1.toNatClampNeg).toInt64)) :: WIN T v B O g ln un nx pl f0 f1 f2) ++ REF T b (yS y 3 (if inN z1 N then (if y 1 (34 + 7 * z1.toNatClampNeg + 4) = 0 then 2 else 0) else 1)) w) H := hP
    have hD : va_D A ((OUT T ob (vp_updL fo 0 (((O 0) 9 z1.toNatClampNeg).toInt64)) :: WIN T v B O g ln un nx pl f0 f1 f2) ++ REF T b (yS y 3 (if inN z1 N then (if y 1 (34 + 7 * z1.toNatClampNeg + 4) = 0 then 2 else 0) else 1)) w) := hD
    exact kk _ _ _ ⟨O, g, ln, un, nx, pl, f0, f1, f2, (yS y 3 (if inN z1 N then (if y 1 (34 + 7 * z1.toNatClampNeg + 4) = 0 then 2 else 0) else 1)), w, (vp_updL fo 0 (((O 0) 9 z1.toNatClampNeg).toInt64)), hP, hD, hS, hG1, lv_sub hl [2, 3, 4, 5, 6] rfl⟩
  | some E =>
    have hG1 := st.s
    refine lv_iload hx hb dL_law_1587 (lv_at hl 1 rfl) ?_
    refine lv_if_ne (tgt := 1604) hx hb dL_law_1589 (by decide) (fun _ => ?_) (fun c1 => absurd c1 kC_some)
    refine lv_goto (tgt := 3239) hx hb dL_law_1604 (by decide) ?_
    refine W.widen (k := cells + 5) (n := slots + 30) (by omega) (by omega) ?_
    have hP : va_P D vwCl ((OUT T ob fo :: WIN T v B O g ln un nx pl f0 f1 f2) ++ REF T b (yS y 3 (if inN z1 N then (if y 1 (34 + 7 * z1.toNatClampNeg + 4) = 0 then 2 else 0) else 1)) w) H := hP
    have hD : va_D A ((OUT T ob fo :: WIN T v B O g ln un nx pl f0 f1 f2) ++ REF T b (yS y 3 (if inN z1 N then (if y 1 (34 + 7 * z1.toNatClampNeg + 4) = 0 then 2 else 0) else 1)) w) := hD
    exact kk _ _ _ ⟨O, g, ln, un, nx, pl, f0, f1, f2, (yS y 3 (if inN z1 N then (if y 1 (34 + 7 * z1.toNatClampNeg + 4) = 0 then 2 else 0) else 1)), w, fo, hP, hD, hS, hG1, lv_sub hl [2, 3, 4, 5, 6] rfl⟩

set_option maxHeartbeats 4000000 in
set_option maxRecDepth 100000 in
theorem arm_28 (X : LCX p l s m args c D T aK aV A sc L xs) {i : Nat} (hi : i + 6 ≤ L) {H : Heap} {locs : List Loc} {ls : Array Slot} {cells slots : Nat} (hcs : cells + 5 ≤ room_1.cells ∧ slots + 30 ≤ room_1.slots) (h : LST s D T A sc v B b ob i H locs ls) (kk : ∀ (H1 : Heap) (locs1 : List Loc) (ls1 : Array Slot), LST s D T A sc v B b ob i H1 locs1 ls1 → W p l e room_1 s m args below meth c H1 locs1 (cells + 5) (slots + 30) Q (F0 m 3239 ls1 [])) : W p l e room_1 s m args below meth c H locs cells slots Q (F0 m 1607 ls []) := by
  obtain ⟨hl9, hx, hb, hml, hown, hts, hX, hsc, hscA, hA, hC, hN, hK, hL⟩ := X
  obtain ⟨O, g, ln, un, nx, pl, f0, f1, f2, y, w, fo, hP, hD, hS, hG, hl⟩ := h
  obtain ⟨N, K, C, nt, hn, h9⟩ := id hG.1
  obtain ⟨z1, hz1⟩ : ∃ z, xs (i + 1) = z := ⟨_, rfl⟩
  refine lv_aload_n hx hb dL_law_1607 rfl (lv_at hl 1 rfl) ?_
  refine lv_aload_n hx hb dL_law_1608 rfl (lv_at hl 0 rfl) ?_
  refine lv_iload hx hb dL_law_1609 (lv_at hl 4 rfl) ?_
  refine lv_iconst (v := 1) hx hb dL_law_1611 (by decide) ?_
  refine lv_iadd hx hb dL_law_1612 ?_
  refine endI (r := nI (i + 1)) (nI_add i 1) ?_
  refine sldN hx hb hX hsc hscA hS hz1 (by omega) hL dL_law_1613 ?_
  refine lv_aload_n hx hb dL_law_1614 rfl (lv_at hl 3 rfl) ?_
  refine wlSi (As := [.ref (v 0), .int z1, .ref ob]) (rest := []) ⟨hx, hb, hml, hown, hts⟩ (c_L_clerkOf l hl9 D T aK aV v B O g ln un nx pl f0 f1 f2 ob fo z1 N K C nt hn.oi _) (vx_cwSW 3 hts gl_L_clerkOf rfl rfl rfl (by decide +kernel) ⟨Nat.le_of_ble_eq_true rfl, Nat.le_of_ble_eq_true rfl⟩) (Foc.lft _ _ _) hC hN hK hP hD hS hA rfl hl.1 rfl (Nat.le_of_ble_eq_true rfl) ⟨by omega, by omega⟩ dL_law_1615 (fun H locs hP hD hS => ?_)
  refine lv_istore (lv' := [(5, .int (kC "java/lang/IndexOutOfBoundsException" (orE (chkB (inN z1 N) "java/lang/IndexOutOfBoundsException") (chkB (!decide ((O 0) 10 z1.toNatClampNeg = -1)) "java/util/NoSuchElementException")))), (0, .ref sc), (1, .ref (v 0)), (2, .ref (b 0)), (3, .ref ob), (4, .int (nI i))]) hx hb dL_law_1618 hl (by decide) rfl (fun ls hl => ?_)
  refine lv_aload_n hx hb dL_law_1620 rfl (lv_at hl 3 rfl) ?_
  refine lv_aload_n hx hb dL_law_1621 rfl (lv_at hl 1 rfl) ?_
  refine lv_iload hx hb dL_law_1622 (lv_at hl 5 rfl) ?_
  refine lv_iconst (v := 1) hx hb dL_law_1624 (by decide) ?_
  refine lv_iadd hx hb dL_law_1625 ?_
  refine endI (r := nI (i + 1)) (nI_add i 1) ?_
  refine sldN hx hb hX hsc hscA hS hz1 (by omega) hL dL_law_1626 ?_
  refine wrVi (As := [.int z1]) (rest := []) ⟨hx, hb, hml, hown, hts⟩ (c_X10_clerkOf l D T b y w z1 N K C nt hn.ri _) (cwV 1 hts gl_X10_clerkOf rfl rfl rfl (by decide +kernel) ⟨Nat.le_of_ble_eq_true rfl, Nat.le_of_ble_eq_true rfl⟩) (Foc.rgt _ _ _) hK hP hD hS hA 0 rfl rfl rfl hl.1 rfl (Nat.le_of_ble_eq_true rfl) ⟨by omega, by omega⟩ dL_law_1627 (fun H locs hP hD hS => ?_)
  refine lv_istore (lv' := [(6, .int (if inN z1 N then (if y 1 (34 + 7 * z1.toNatClampNeg + 6) < 0 then 0 else y 1 (34 + 7 * z1.toNatClampNeg + 6)) else 0)), (5, .int (kC "java/lang/IndexOutOfBoundsException" (orE (chkB (inN z1 N) "java/lang/IndexOutOfBoundsException") (chkB (!decide ((O 0) 10 z1.toNatClampNeg = -1)) "java/util/NoSuchElementException")))), (0, .ref sc), (1, .ref (v 0)), (2, .ref (b 0)), (3, .ref ob), (4, .int (nI i))]) hx hb dL_law_1630 hl (by decide) rfl (fun ls hl => ?_)
  refine lv_aload_n hx hb dL_law_1632 rfl (lv_at hl 4 rfl) ?_
  refine rdV (As := []) (rest := []) ⟨hx, hb, hml, hown, hts⟩ (c_X10_thrown l D T b (yS y 3 (if inN z1 N then (if y 1 (34 + 7 * z1.toNatClampNeg + 6) < 0 then 2 else 0) else 1)) w) (cwV 0 hts gl_X10_thrown rfl rfl rfl (by decide +kernel) ⟨Nat.le_of_ble_eq_true rfl, Nat.le_of_ble_eq_true rfl⟩) hK ((Foc.rgt _ _ []).subP hP) 0 rfl rfl rfl hl.1 rfl (Nat.le_of_ble_eq_true rfl) ⟨by omega, by omega⟩ dL_law_1633 ?_
  refine lv_iload hx hb dL_law_1636 (lv_at hl 1 rfl) ?_
  have st := st_clerkOf hG hn z1
  have hk := st.code
  refine lv_icmp_eq (tgt := 1643) hx hb dL_law_1638 (by decide) (fun _ => ?_) (fun c1 => absurd hk c1)
  generalize hcd : (orE (chkB (inN z1 N) "java/lang/IndexOutOfBoundsException") (chkB (!decide ((O 0) 10 z1.toNatClampNeg = -1)) "java/util/NoSuchElementException")) = cd at st hP hD hl
  cases cd with
  | none =>
    obtain ⟨eV, hG1⟩ := st.n
    refine lv_iload hx hb dL_law_1643 (lv_at hl 1 rfl) ?_
    refine lv_if_ne (tgt := 1660) hx hb dL_law_1645 (by decide) (fun c1 => absurd rfl c1) (fun _ => ?_)
    have hP : va_P D vwCl ((OUT T ob (vp_updL fo 0 (((O 0) 10 z1.toNatClampNeg).toInt64)) :: WIN T v B O g ln un nx pl f0 f1 f2) ++ REF T b (yS y 3 (if inN z1 N then (if y 1 (34 + 7 * z1.toNatClampNeg + 6) < 0 then 2 else 0) else 1)) w) H := hP
    have hD : va_D A ((OUT T ob (vp_updL fo 0 (((O 0) 10 z1.toNatClampNeg).toInt64)) :: WIN T v B O g ln un nx pl f0 f1 f2) ++ REF T b (yS y 3 (if inN z1 N then (if y 1 (34 + 7 * z1.toNatClampNeg + 6) < 0 then 2 else 0) else 1)) w) := hD
    refine lv_aload_n hx hb dL_law_1648 rfl (lv_at hl 5 rfl) ?_
    refine lv_iconst (v := 0) hx hb dL_law_1649 (by decide) ?_
    refine laldO hx hb hK hP dL_law_1650 ?_
    refine lv_iload hx hb dL_law_1651 (lv_at hl 0 rfl) ?_
    refine lv_i2l (v := (if inN z1 N then (if y 1 (34 + 7 * z1.toNatClampNeg + 6) < 0 then 0 else y 1 (34 + 7 * z1.toNatClampNeg + 6)) else 0).toInt64) hx hb dL_law_1653 rfl ?_
    refine W.lcmp hx hb dL_law_1654 ?_
    refine lv_if_eq (tgt := 1660) hx hb dL_law_1655 (by decide) (fun _ => ?_) (fun c1 => absurd ((lg_cmp_eq _ _).mpr eV) c1)
    refine lv_goto (tgt := 3239) hx hb dL_law_1660 (by decide) ?_
    refine W.widen (k := cells + 5) (n := slots + 30) (by omega) (by omega) ?_
    have hP : va_P D vwCl ((OUT T ob (vp_updL fo 0 (((O 0) 10 z1.toNatClampNeg).toInt64)) :: WIN T v B O g ln un nx pl f0 f1 f2) ++ REF T b (yS y 3 (if inN z1 N then (if y 1 (34 + 7 * z1.toNatClampNeg + 6) < 0 then 2 else 0) else 1)) w) H := hP
    have hD : va_D A ((OUT T ob (vp_updL fo 0 (((O 0) 10 z1.toNatClampNeg).toInt64)) :: WIN T v B O g ln un nx pl f0 f1 f2) ++ REF T b (yS y 3 (if inN z1 N then (if y 1 (34 + 7 * z1.toNatClampNeg + 6) < 0 then 2 else 0) else 1)) w) := hD
    exact kk _ _ _ ⟨O, g, ln, un, nx, pl, f0, f1, f2, (yS y 3 (if inN z1 N then (if y 1 (34 + 7 * z1.toNatClampNeg + 6) < 0 then 2 else 0) else 1)), w, (vp_updL fo 0 (((O 0) 10 z1.toNatClampNeg).toInt64)), hP, hD, hS, hG1, lv_sub hl [2, 3, 4, 5, 6] rfl⟩
  | some E =>
    have hG1 := st.s
    refine lv_iload hx hb dL_law_1643 (lv_at hl 1 rfl) ?_
    refine lv_if_ne (tgt := 1660) hx hb dL_law_1645 (by decide) (fun _ => ?_) (fun c1 => absurd c1 kC_some)
    refine lv_goto (tgt := 3239) hx hb dL_law_1660 (by decide) ?_
    refine W.widen (k := cells + 5) (n := slots + 30) (by omega) (by omega) ?_
    have hP : va_P D vwCl ((OUT T ob fo :: WIN T v B O g ln un nx pl f0 f1 f2) ++ REF T b (yS y 3 (if inN z1 N then (if y 1 (34 + 7 * z1.toNatClampNeg + 6) < 0 then 2 else 0) else 1)) w) H := hP
    have hD : va_D A ((OUT T ob fo :: WIN T v B O g ln un nx pl f0 f1 f2) ++ REF T b (yS y 3 (if inN z1 N then (if y 1 (34 + 7 * z1.toNatClampNeg + 6) < 0 then 2 else 0) else 1)) w) := hD
    exact kk _ _ _ ⟨O, g, ln, un, nx, pl, f0, f1, f2, (yS y 3 (if inN z1 N then (if y 1 (34 + 7 * z1.toNatClampNeg + 6) < 0 then 2 else 0) else 1)), w, fo, hP, hD, hS, hG1, lv_sub hl [2, 3, 4, 5, 6] rfl⟩

set_option maxHeartbeats 4000000 in
set_option maxRecDepth 100000 in
theorem arm_29 (X : LCX p l s m args c D T aK aV A sc L xs) {i : Nat} (hi : i + 6 ≤ L) {H : Heap} {locs : List Loc} {ls : Array Slot} {cells slots : Nat} (hcs : cells + 5 ≤ room_1.cells ∧ slots + 30 ≤ room_1.slots) (h : LST s D T A sc v B b ob i H locs ls) (kk : ∀ (H1 : Heap) (locs1 : List Loc) (ls1 : Array Slot), LST s D T A sc v B b ob i H1 locs1 ls1 → W p l e room_1 s m args below meth c H1 locs1 (cells + 5) (slots + 30) Q (F0 m 3239 ls1 [])) : W p l e room_1 s m args below meth c H locs cells slots Q (F0 m 1663 ls []) := by
  obtain ⟨hl9, hx, hb, hml, hown, hts, hX, hsc, hscA, hA, hC, hN, hK, hL⟩ := X
  obtain ⟨O, g, ln, un, nx, pl, f0, f1, f2, y, w, fo, hP, hD, hS, hG, hl⟩ := h
  obtain ⟨N, K, C, nt, hn, h9⟩ := id hG.1
  obtain ⟨z1, hz1⟩ : ∃ z, xs (i + 1) = z := ⟨_, rfl⟩
  obtain ⟨z2, hz2⟩ : ∃ z, xs (i + 2) = z := ⟨_, rfl⟩
  refine lv_aload_n hx hb dL_law_1663 rfl (lv_at hl 1 rfl) ?_
  refine lv_aload_n hx hb dL_law_1664 rfl (lv_at hl 0 rfl) ?_
  refine lv_iload hx hb dL_law_1665 (lv_at hl 4 rfl) ?_
  refine lv_iconst (v := 1) hx hb dL_law_1667 (by decide) ?_
  refine lv_iadd hx hb dL_law_1668 ?_
  refine endI (r := nI (i + 1)) (nI_add i 1) ?_
  refine sldN hx hb hX hsc hscA hS hz1 (by omega) hL dL_law_1669 ?_
  refine lv_aload_n hx hb dL_law_1670 rfl (lv_at hl 0 rfl) ?_
  refine lv_iload hx hb dL_law_1671 (lv_at hl 4 rfl) ?_
  refine lv_iconst (v := 2) hx hb dL_law_1673 (by decide) ?_
  refine lv_iadd hx hb dL_law_1674 ?_
  refine endI (r := nI (i + 2)) (nI_add i 2) ?_
  refine sldN hx hb hX hsc hscA hS hz2 (by omega) hL dL_law_1675 ?_
  refine lv_aload_n hx hb dL_law_1676 rfl (lv_at hl 3 rfl) ?_
  refine wlSi (As := [.ref (v 0), .int z1, .int z2, .ref ob]) (rest := []) ⟨hx, hb, hml, hown, hts⟩ (c_L_waitingOf l hl9 D T aK aV v B O g ln un nx pl f0 f1 f2 ob fo z1 z2 N K C nt hn.oi _) (vx_cwSW 4 hts gl_L_waitingOf rfl rfl rfl (by decide +kernel) ⟨Nat.le_of_ble_eq_true rfl, Nat.le_of_ble_eq_true rfl⟩) (Foc.lft _ _ _) hC hN hK hP hD hS hA rfl hl.1 rfl (Nat.le_of_ble_eq_true rfl) ⟨by omega, by omega⟩ dL_law_1677 (fun H locs hP hD hS => ?_)
  refine lv_istore (lv' := [(5, .int (kC "java/lang/IllegalArgumentException" (orE (chkB (rg z1 0 99) "java/lang/IllegalArgumentException") (orE (chkB (rg z2 0 3) "java/lang/IllegalArgumentException") (chkB ((findC (O 0) z1 z2 N).isSome) "java/util/NoSuchElementException"))))), (0, .ref sc), (1, .ref (v 0)), (2, .ref (b 0)), (3, .ref ob), (4, .int (nI i))]) hx hb dL_law_1680 hl (by decide) rfl (fun ls hl => ?_)
  refine lv_aload_n hx hb dL_law_1682 rfl (lv_at hl 3 rfl) ?_
  refine lv_aload_n hx hb dL_law_1683 rfl (lv_at hl 1 rfl) ?_
  refine lv_iload hx hb dL_law_1684 (lv_at hl 5 rfl) ?_
  refine lv_iconst (v := 1) hx hb dL_law_1686 (by decide) ?_
  refine lv_iadd hx hb dL_law_1687 ?_
  refine endI (r := nI (i + 1)) (nI_add i 1) ?_
  refine sldN hx hb hX hsc hscA hS hz1 (by omega) hL dL_law_1688 ?_
  refine lv_aload_n hx hb dL_law_1689 rfl (lv_at hl 1 rfl) ?_
  refine lv_iload hx hb dL_law_1690 (lv_at hl 5 rfl) ?_
  refine lv_iconst (v := 2) hx hb dL_law_1692 (by decide) ?_
  refine lv_iadd hx hb dL_law_1693 ?_
  refine endI (r := nI (i + 2)) (nI_add i 2) ?_
  refine sldN hx hb hX hsc hscA hS hz2 (by omega) hL dL_law_1694 ?_
  refine wrVi (As := [.int z1, .int z2]) (rest := []) ⟨hx, hb, hml, hown, hts⟩ (c_X10_waitingOf l D T b y w z1 z2 N K C nt hn.ri _) (cwV 2 hts gl_X10_waitingOf rfl rfl rfl (by decide +kernel) ⟨Nat.le_of_ble_eq_true rfl, Nat.le_of_ble_eq_true rfl⟩) (Foc.rgt _ _ _) hK hP hD hS hA 0 rfl rfl rfl hl.1 rfl (Nat.le_of_ble_eq_true rfl) ⟨by omega, by omega⟩ dL_law_1695 (fun H locs hP hD hS => ?_)
  refine lv_istore (lv' := [(6, .int (if rg z1 0 99 && rg z2 0 3 then (findR (y 1) z1 z2 N).elim 0 nI else 0)), (5, .int (kC "java/lang/IllegalArgumentException" (orE (chkB (rg z1 0 99) "java/lang/IllegalArgumentException") (orE (chkB (rg z2 0 3) "java/lang/IllegalArgumentException") (chkB ((findC (O 0) z1 z2 N).isSome) "java/util/NoSuchElementException"))))), (0, .ref sc), (1, .ref (v 0)), (2, .ref (b 0)), (3, .ref ob), (4, .int (nI i))]) hx hb dL_law_1698 hl (by decide) rfl (fun ls hl => ?_)
  refine lv_aload_n hx hb dL_law_1700 rfl (lv_at hl 4 rfl) ?_
  refine rdV (As := []) (rest := []) ⟨hx, hb, hml, hown, hts⟩ (c_X10_thrown l D T b (yS y 3 (if rg z1 0 99 && rg z2 0 3 then (if (findR (y 1) z1 z2 N).isSome then 0 else 2) else 1)) w) (cwV 0 hts gl_X10_thrown rfl rfl rfl (by decide +kernel) ⟨Nat.le_of_ble_eq_true rfl, Nat.le_of_ble_eq_true rfl⟩) hK ((Foc.rgt _ _ []).subP hP) 0 rfl rfl rfl hl.1 rfl (Nat.le_of_ble_eq_true rfl) ⟨by omega, by omega⟩ dL_law_1701 ?_
  refine lv_iload hx hb dL_law_1704 (lv_at hl 1 rfl) ?_
  have st := st_waitingOf hG hn z1 z2
  have hk := st.code
  refine lv_icmp_eq (tgt := 1711) hx hb dL_law_1706 (by decide) (fun _ => ?_) (fun c1 => absurd hk c1)
  generalize hcd : (orE (chkB (rg z1 0 99) "java/lang/IllegalArgumentException") (orE (chkB (rg z2 0 3) "java/lang/IllegalArgumentException") (chkB ((findC (O 0) z1 z2 N).isSome) "java/util/NoSuchElementException"))) = cd at st hP hD hl
  cases cd with
  | none =>
    obtain ⟨eV, hG1⟩ := st.n
    refine lv_iload hx hb dL_law_1711 (lv_at hl 1 rfl) ?_
    refine lv_if_ne (tgt := 1728) hx hb dL_law_1713 (by decide) (fun c1 => absurd rfl c1) (fun _ => ?_)
    have hP : va_P D vwCl ((OUT T ob (vp_updL fo 0 (((findC (O 0) z1 z2 N).elim 0 nI).toInt64)) :: WIN T v B O g ln un nx pl f0 f1 f2) ++ REF T b (yS y 3 (if rg z1 0 99 && rg z2 0 3 then (if (findR (y 1) z1 z2 N).isSome then 0 else 2) else 1)) w) H := hP
    have hD : va_D A ((OUT T ob (vp_updL fo 0 (((findC (O 0) z1 z2 N).elim 0 nI).toInt64)) :: WIN T v B O g ln un nx pl f0 f1 f2) ++ REF T b (yS y 3 (if rg z1 0 99 && rg z2 0 3 then (if (findR (y 1) z1 z2 N).isSome then 0 else 2) else 1)) w) := hD
    refine lv_aload_n hx hb dL_law_1716 rfl (lv_at hl 5 rfl) ?_
    refine lv_iconst (v := 0) hx hb dL_law_1717 (by decide) ?_
    refine laldO hx hb hK hP dL_law_1718 ?_
    refine lv_iload hx hb dL_law_1719 (lv_at hl 0 rfl) ?_
    refine lv_i2l (v := (if rg z1 0 99 && rg z2 0 3 then (findR (y 1) z1 z2 N).elim 0 nI else 0).toInt64) hx hb dL_law_1721 rfl ?_
    refine W.lcmp hx hb dL_law_1722 ?_
    refine lv_if_eq (tgt := 1728) hx hb dL_law_1723 (by decide) (fun _ => ?_) (fun c1 => absurd ((lg_cmp_eq _ _).mpr eV) c1)
    refine lv_goto (tgt := 3239) hx hb dL_law_1728 (by decide) ?_
    refine W.widen (k := cells + 5) (n := slots + 30) (by omega) (by omega) ?_
    have hP : va_P D vwCl ((OUT T ob (vp_updL fo 0 (((findC (O 0) z1 z2 N).elim 0 nI).toInt64)) :: WIN T v B O g ln un nx pl f0 f1 f2) ++ REF T b (yS y 3 (if rg z1 0 99 && rg z2 0 3 then (if (findR (y 1) z1 z2 N).isSome then 0 else 2) else 1)) w) H := hP
    have hD : va_D A ((OUT T ob (vp_updL fo 0 (((findC (O 0) z1 z2 N).elim 0 nI).toInt64)) :: WIN T v B O g ln un nx pl f0 f1 f2) ++ REF T b (yS y 3 (if rg z1 0 99 && rg z2 0 3 then (if (findR (y 1) z1 z2 N).isSome then 0 else 2) else 1)) w) := hD
    exact kk _ _ _ ⟨O, g, ln, un, nx, pl, f0, f1, f2, (yS y 3 (if rg z1 0 99 && rg z2 0 3 then (if (findR (y 1) z1 z2 N).isSome then 0 else 2) else 1)), w, (vp_updL fo 0 (((findC (O 0) z1 z2 N).elim 0 nI).toInt64)), hP, hD, hS, hG1, lv_sub hl [2, 3, 4, 5, 6] rfl⟩
  | some E =>
    have hG1 := st.s
    refine lv_iload hx hb dL_law_1711 (lv_at hl 1 rfl) ?_
    refine lv_if_ne (tgt := 1728) hx hb dL_law_1713 (by decide) (fun _ => ?_) (fun c1 => absurd c1 kC_some)
    refine lv_goto (tgt := 3239) hx hb dL_law_1728 (by decide) ?_
    refine W.widen (k := cells + 5) (n := slots + 30) (by omega) (by omega) ?_
    have hP : va_P D vwCl ((OUT T ob fo :: WIN T v B O g ln un nx pl f0 f1 f2) ++ REF T b (yS y 3 (if rg z1 0 99 && rg z2 0 3 then (if (findR (y 1) z1 z2 N).isSome then 0 else 2) else 1)) w) H := hP
    have hD : va_D A ((OUT T ob fo :: WIN T v B O g ln un nx pl f0 f1 f2) ++ REF T b (yS y 3 (if rg z1 0 99 && rg z2 0 3 then (if (findR (y 1) z1 z2 N).isSome then 0 else 2) else 1)) w) := hD
    exact kk _ _ _ ⟨O, g, ln, un, nx, pl, f0, f1, f2, (yS y 3 (if rg z1 0 99 && rg z2 0 3 then (if (findR (y 1) z1 z2 N).isSome then 0 else 2) else 1)), w, fo, hP, hD, hS, hG1, lv_sub hl [2, 3, 4, 5, 6] rfl⟩

set_option maxHeartbeats 4000000 in
set_option maxRecDepth 100000 in
theorem arm_30 (X : LCX p l s m args c D T aK aV A sc L xs) {i : Nat} (hi : i + 6 ≤ L) {H : Heap} {locs : List Loc} {ls : Array Slot} {cells slots : Nat} (hcs : cells + 5 ≤ room_1.cells ∧ slots + 30 ≤ room_1.slots) (h : LST s D T A sc v B b ob i H locs ls) (kk : ∀ (H1 : Heap) (locs1 : List Loc) (ls1 : Array Slot), LST s D T A sc v B b ob i H1 locs1 ls1 → W p l e room_1 s m args below meth c H1 locs1 (cells + 5) (slots + 30) Q (F0 m 3239 ls1 [])) : W p l e room_1 s m args below meth c H locs cells slots Q (F0 m 1731 ls []) := by
  obtain ⟨hl9, hx, hb, hml, hown, hts, hX, hsc, hscA, hA, hC, hN, hK, hL⟩ := X
  obtain ⟨O, g, ln, un, nx, pl, f0, f1, f2, y, w, fo, hP, hD, hS, hG, hl⟩ := h
  obtain ⟨N, K, C, nt, hn, h9⟩ := id hG.1
  refine lv_aload_n hx hb dL_law_1731 rfl (lv_at hl 1 rfl) ?_
  refine rdV (As := []) (rest := []) ⟨hx, hb, hml, hown, hts⟩ (c_X9_waitingCount l D T v B O g ln un nx pl f0 f1 f2 N K C nt hn.oi) (cwV 0 hts gl_X9_waitingCount rfl rfl rfl (by decide +kernel) ⟨Nat.le_of_ble_eq_true rfl, Nat.le_of_ble_eq_true rfl⟩) hK ((Foc.mid _ _ [] _).subP hP) 0 rfl rfl rfl hl.1 rfl (Nat.le_of_ble_eq_true rfl) ⟨by omega, by omega⟩ dL_law_1732 ?_
  refine lv_aload_n hx hb dL_law_1735 rfl (lv_at hl 2 rfl) ?_
  refine wrVi (As := []) (rest := [.int (cntC (O 0) 0 N)]) ⟨hx, hb, hml, hown, hts⟩ (c_X10_waitingCount l D T b y w N K C nt hn.ri _) (cwV 0 hts gl_X10_waitingCount rfl rfl rfl (by decide +kernel) ⟨Nat.le_of_ble_eq_true rfl, Nat.le_of_ble_eq_true rfl⟩) (Foc.rgt _ _ _) hK hP hD hS hA 0 rfl rfl rfl hl.1 rfl (Nat.le_of_ble_eq_true rfl) ⟨by omega, by omega⟩ dL_law_1736 (fun H locs hP hD hS => ?_)
  refine lv_icmp_eq (tgt := 3239) hx hb dL_law_1739 (by decide) (fun _ => ?_) (fun c1 => absurd (eq_waitingCount hn) c1)
  refine W.widen (k := cells + 5) (n := slots + 30) (by omega) (by omega) ?_
  have hP : va_P D vwCl ((OUT T ob fo :: WIN T v B O g ln un nx pl f0 f1 f2) ++ REF T b (yS y 3 0) w) H := hP
  have hD : va_D A ((OUT T ob fo :: WIN T v B O g ln un nx pl f0 f1 f2) ++ REF T b (yS y 3 0) w) := hD
  exact kk _ _ _ ⟨O, g, ln, un, nx, pl, f0, f1, f2, (yS y 3 0), w, fo, hP, hD, hS, (hG.thr 0), lv_sub hl [0, 1, 2, 3, 4] rfl⟩

set_option maxHeartbeats 4000000 in
set_option maxRecDepth 100000 in
theorem arm_31 (X : LCX p l s m args c D T aK aV A sc L xs) {i : Nat} (hi : i + 6 ≤ L) {H : Heap} {locs : List Loc} {ls : Array Slot} {cells slots : Nat} (hcs : cells + 5 ≤ room_1.cells ∧ slots + 30 ≤ room_1.slots) (h : LST s D T A sc v B b ob i H locs ls) (kk : ∀ (H1 : Heap) (locs1 : List Loc) (ls1 : Array Slot), LST s D T A sc v B b ob i H1 locs1 ls1 → W p l e room_1 s m args below meth c H1 locs1 (cells + 5) (slots + 30) Q (F0 m 3239 ls1 [])) : W p l e room_1 s m args below meth c H locs cells slots Q (F0 m 1744 ls []) := by
  obtain ⟨hl9, hx, hb, hml, hown, hts, hX, hsc, hscA, hA, hC, hN, hK, hL⟩ := X
  obtain ⟨O, g, ln, un, nx, pl, f0, f1, f2, y, w, fo, hP, hD, hS, hG, hl⟩ := h
  obtain ⟨N, K, C, nt, hn, h9⟩ := id hG.1
  refine lv_aload_n hx hb dL_law_1744 rfl (lv_at hl 1 rfl) ?_
  refine rdV (As := []) (rest := []) ⟨hx, hb, hml, hown, hts⟩ (c_X9_answeredCount l D T v B O g ln un nx pl f0 f1 f2 N K C nt hn.oi) (cwV 0 hts gl_X9_answeredCount rfl rfl rfl (by decide +kernel) ⟨Nat.le_of_ble_eq_true rfl, Nat.le_of_ble_eq_true rfl⟩) hK ((Foc.mid _ _ [] _).subP hP) 0 rfl rfl rfl hl.1 rfl (Nat.le_of_ble_eq_true rfl) ⟨by omega, by omega⟩ dL_law_1745 ?_
  refine lv_aload_n hx hb dL_law_1748 rfl (lv_at hl 2 rfl) ?_
  refine wrVi (As := []) (rest := [.int (cntC (O 0) 1 N)]) ⟨hx, hb, hml, hown, hts⟩ (c_X10_answeredCount l D T b y w N K C nt hn.ri _) (cwV 0 hts gl_X10_answeredCount rfl rfl rfl (by decide +kernel) ⟨Nat.le_of_ble_eq_true rfl, Nat.le_of_ble_eq_true rfl⟩) (Foc.rgt _ _ _) hK hP hD hS hA 0 rfl rfl rfl hl.1 rfl (Nat.le_of_ble_eq_true rfl) ⟨by omega, by omega⟩ dL_law_1749 (fun H locs hP hD hS => ?_)
  refine lv_icmp_eq (tgt := 3239) hx hb dL_law_1752 (by decide) (fun _ => ?_) (fun c1 => absurd (eq_answeredCount hn) c1)
  refine W.widen (k := cells + 5) (n := slots + 30) (by omega) (by omega) ?_
  have hP : va_P D vwCl ((OUT T ob fo :: WIN T v B O g ln un nx pl f0 f1 f2) ++ REF T b (yS y 3 0) w) H := hP
  have hD : va_D A ((OUT T ob fo :: WIN T v B O g ln un nx pl f0 f1 f2) ++ REF T b (yS y 3 0) w) := hD
  exact kk _ _ _ ⟨O, g, ln, un, nx, pl, f0, f1, f2, (yS y 3 0), w, fo, hP, hD, hS, (hG.thr 0), lv_sub hl [0, 1, 2, 3, 4] rfl⟩

end ARM
