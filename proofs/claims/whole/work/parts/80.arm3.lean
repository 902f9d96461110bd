section ARM
variable {p : Program} {l : Launch} {e : Env} {s : State} {m : MethodId} {args : Array Value} {below : List Frame} {meth : Method} {c : Code} {Q : State → Prop} {D : va_G} {T : Nat → ClassId} {aK aV : Nat → Nat} {A : Nat → Prop} {sc L : Nat} {xs : Nat → Int32} {v : Nat → Nat} {B : Nat → Nat → Nat} {b : Nat → Nat} {ob : Nat}
set_option maxHeartbeats 4000000 in
set_option maxRecDepth 100000 in
theorem arm_32 (X : LCX p l s m args c D T aK aV A sc L xs) {i : Nat} (hi : i + 6 ≤ L) {H : Heap} {locs : List Loc} {ls : Array Slot} {cells slots : Nat} (hcs : cells + 5 ≤ room_1.cells ∧ slots + 30 ≤ room_1.slots) (h : LST s D T A sc v B b ob i H locs ls) (kk : ∀ (H1 : Heap) (locs1 : List Loc) (ls1 : Array Slot), LST s D T A sc v B b ob i H1 locs1 ls1 → W p l e room_1 s m args below meth c H1 locs1 (cells + 5) (slots + 30) Q (F0 m 3239 ls1 [])) : W p l e room_1 s m args below meth c H locs cells slots Q (F0 m 1757 ls []) := by
  obtain ⟨hl9, hx, hb, hml, hown, hts, hX, hsc, hscA, hA, hC, hN, hK, hL⟩ := X
  obtain ⟨O, g, ln, un, nx, pl, f0, f1, f2, y, w, fo, hP, hD, hS, hG, hl⟩ := h
  obtain ⟨N, K, C, nt, hn, h9⟩ := id hG.1
  refine lv_aload_n hx hb dL_law_1757 rfl (lv_at hl 1 rfl) ?_
  refine rdV (As := []) (rest := []) ⟨hx, hb, hml, hown, hts⟩ (c_X9_dismissedCount l D T v B O g ln un nx pl f0 f1 f2 N K C nt hn.oi) (cwV 0 hts gl_X9_dismissedCount rfl rfl rfl (by decide +kernel) ⟨Nat.le_of_ble_eq_true rfl, Nat.le_of_ble_eq_true rfl⟩) hK ((Foc.mid _ _ [] _).subP hP) 0 rfl rfl rfl hl.1 rfl (Nat.le_of_ble_eq_true rfl) ⟨by omega, by omega⟩ dL_law_1758 ?_
  refine lv_aload_n hx hb dL_law_1761 rfl (lv_at hl 2 rfl) ?_
  refine wrVi (As := []) (rest := [.int (cntC (O 0) 2 N)]) ⟨hx, hb, hml, hown, hts⟩ (c_X10_dismissedCount l D T b y w N K C nt hn.ri _) (cwV 0 hts gl_X10_dismissedCount rfl rfl rfl (by decide +kernel) ⟨Nat.le_of_ble_eq_true rfl, Nat.le_of_ble_eq_true rfl⟩) (Foc.rgt _ _ _) hK hP hD hS hA 0 rfl rfl rfl hl.1 rfl (Nat.le_of_ble_eq_true rfl) ⟨by omega, by omega⟩ dL_law_1762 (fun H locs hP hD hS => ?_)
  refine lv_icmp_eq (tgt := 3239) hx hb dL_law_1765 (by decide) (fun _ => ?_) (fun c1 => absurd (eq_dismissedCount hn) c1)
  refine W.widen (k := cells + 5) (n := slots + 30) (by omega) (by omega) ?_
  have hP : va_P D vwCl ((OUT T ob fo :: WIN T v B O g ln un nx pl f0 f1 f2) ++ REF T b (yS y 3 0) w) H := hP
  have hD : va_D A ((OUT T ob fo :: WIN T v B O g ln un nx pl f0 f1 f2) ++ REF T b (yS y 3 0) w) := hD
  exact kk _ _ _ ⟨O, g, ln, un, nx, pl, f0, f1, f2, (yS y 3 0), w, fo, hP, hD, hS, (hG.thr 0), lv_sub hl [0, 1, 2, 3, 4] rfl⟩

set_option maxHeartbeats 4000000 in
set_option maxRecDepth 100000 in
theorem arm_33 (X : LCX p l s m args c D T aK aV A sc L xs) {i : Nat} (hi : i + 6 ≤ L) {H : Heap} {locs : List Loc} {ls : Array Slot} {cells slots : Nat} (hcs : cells + 5 ≤ room_1.cells ∧ slots + 30 ≤ room_1.slots) (h : LST s D T A sc v B b ob i H locs ls) (kk : ∀ (H1 : Heap) (locs1 : List Loc) (ls1 : Array Slot), LST s D T A sc v B b ob i H1 locs1 ls1 → W p l e room_1 s m args below meth c H1 locs1 (cells + 5) (slots + 30) Q (F0 m 3239 ls1 [])) : W p l e room_1 s m args below meth c H locs cells slots Q (F0 m 1770 ls []) := by
  obtain ⟨hl9, hx, hb, hml, hown, hts, hX, hsc, hscA, hA, hC, hN, hK, hL⟩ := X
  obtain ⟨O, g, ln, un, nx, pl, f0, f1, f2, y, w, fo, hP, hD, hS, hG, hl⟩ := h
  obtain ⟨N, K, C, nt, hn, h9⟩ := id hG.1
  refine lv_aload_n hx hb dL_law_1770 rfl (lv_at hl 1 rfl) ?_
  refine rdV (As := []) (rest := []) ⟨hx, hb, hml, hown, hts⟩ (c_X9_givenUpCount l D T v B O g ln un nx pl f0 f1 f2 N K C nt hn.oi) (cwV 0 hts gl_X9_givenUpCount rfl rfl rfl (by decide +kernel) ⟨Nat.le_of_ble_eq_true rfl, Nat.le_of_ble_eq_true rfl⟩) hK ((Foc.mid _ _ [] _).subP hP) 0 rfl rfl rfl hl.1 rfl (Nat.le_of_ble_eq_true rfl) ⟨by omega, by omega⟩ dL_law_1771 ?_
  refine lv_aload_n hx hb dL_law_1774 rfl (lv_at hl 2 rfl) ?_
  refine wrVi (As := []) (rest := [.int (cntC (O 0) 3 N)]) ⟨hx, hb, hml, hown, hts⟩ (c_X10_givenUpCount l D T b y w N K C nt hn.ri _) (cwV 0 hts gl_X10_givenUpCount rfl rfl rfl (by decide +kernel) ⟨Nat.le_of_ble_eq_true rfl, Nat.le_of_ble_eq_true rfl⟩) (Foc.rgt _ _ _) hK hP hD hS hA 0 rfl rfl rfl hl.1 rfl (Nat.le_of_ble_eq_true rfl) ⟨by omega, by omega⟩ dL_law_1775 (fun H locs hP hD hS => ?_)
  refine lv_icmp_eq (tgt := 3239) hx hb dL_law_1778 (by decide) (fun _ => ?_) (fun c1 => absurd (eq_givenUpCount hn) c1)
  refine W.widen (k := cells + 5) (n := slots + 30) (by omega) (by omega) ?_
  have hP : va_P D vwCl ((OUT T ob fo :: WIN T v B O g ln un nx pl f0 f1 f2) ++ REF T b (yS y 3 0) w) H := hP
  have hD : va_D A ((OUT T ob fo :: WIN T v B O g ln un nx pl f0 f1 f2) ++ REF T b (yS y 3 0) w) := hD
  exact kk _ _ _ ⟨O, g, ln, un, nx, pl, f0, f1, f2, (yS y 3 0), w, fo, hP, hD, hS, (hG.thr 0), lv_sub hl [0, 1, 2, 3, 4] rfl⟩

set_option maxHeartbeats 4000000 in
set_option maxRecDepth 100000 in
theorem arm_34 (X : LCX p l s m args c D T aK aV A sc L xs) {i : Nat} (hi : i + 6 ≤ L) {H : Heap} {locs : List Loc} {ls : Array Slot} {cells slots : Nat} (hcs : cells + 5 ≤ room_1.cells ∧ slots + 30 ≤ room_1.slots) (h : LST s D T A sc v B b ob i H locs ls) (kk : ∀ (H1 : Heap) (locs1 : List Loc) (ls1 : Array Slot), LST s D T A sc v B b ob i H1 locs1 ls1 → W p l e room_1 s m args below meth c H1 locs1 (cells + 5) (slots + 30) Q (F0 m 3239 ls1 [])) : W p l e room_1 s m args below meth c H locs cells slots Q (F0 m 1783 ls []) := by
  obtain ⟨hl9, hx, hb, hml, hown, hts, hX, hsc, hscA, hA, hC, hN, hK, hL⟩ := X
  obtain ⟨O, g, ln, un, nx, pl, f0, f1, f2, y, w, fo, hP, hD, hS, hG, hl⟩ := h
  obtain ⟨N, K, C, nt, hn, h9⟩ := id hG.1
  refine lv_aload_n hx hb dL_law_1783 rfl (lv_at hl 1 rfl) ?_
  refine lv_aload_n hx hb dL_law_1784 rfl (lv_at hl 3 rfl) ?_
  refine wlSi (As := [.ref (v 0), .ref ob]) (rest := []) ⟨hx, hb, hml, hown, hts⟩ (c_L_oldest l hl9 D T aK aV v B O g ln un nx pl f0 f1 f2 ob fo N K C nt hn.oi _) (vx_cwSW 2 hts gl_L_oldest rfl rfl rfl (by decide +kernel) ⟨Nat.le_of_ble_eq_true rfl, Nat.le_of_ble_eq_true rfl⟩) (Foc.lft _ _ _) hC hN hK hP hD hS hA rfl hl.1 rfl (Nat.le_of_ble_eq_true rfl) ⟨by omega, by omega⟩ dL_law_1785 (fun H locs hP hD hS => ?_)
  refine lv_istore (lv' := [(5, .int (kC "java/util/NoSuchElementException" (chkB ((firstC (O 0) ((O 0) 0 0) N).isSome) "java/util/NoSuchElementException"))), (0, .ref sc), (1, .ref (v 0)), (2, .ref (b 0)), (3, .ref ob), (4, .int (nI i))]) hx hb dL_law_1788 hl (by decide) rfl (fun ls hl => ?_)
  refine lv_aload_n hx hb dL_law_1790 rfl (lv_at hl 3 rfl) ?_
  refine wrVi (As := []) (rest := []) ⟨hx, hb, hml, hown, hts⟩ (c_X10_oldest l D T b y w N K C nt hn.ri _) (cwV 0 hts gl_X10_oldest rfl rfl rfl (by decide +kernel) ⟨Nat.le_of_ble_eq_true rfl, Nat.le_of_ble_eq_true rfl⟩) (Foc.rgt _ _ _) hK hP hD hS hA 0 rfl rfl rfl hl.1 rfl (Nat.le_of_ble_eq_true rfl) ⟨by omega, by omega⟩ dL_law_1791 (fun H locs hP hD hS => ?_)
  refine lv_istore (lv' := [(6, .int ((oldR (y 1) N).elim 0 nI)), (5, .int (kC "java/util/NoSuchElementException" (chkB ((firstC (O 0) ((O 0) 0 0) N).isSome) "java/util/NoSuchElementException"))), (0, .ref sc), (1, .ref (v 0)), (2, .ref (b 0)), (3, .ref ob), (4, .int (nI i))]) hx hb dL_law_1794 hl (by decide) rfl (fun ls hl => ?_)
  refine lv_aload_n hx hb dL_law_1796 rfl (lv_at hl 4 rfl) ?_
  refine rdV (As := []) (rest := []) ⟨hx, hb, hml, hown, hts⟩ (c_X10_thrown l D T b (yS y 3 (if (oldR (y 1) N).isSome then 0 else 1)) w) (cwV 0 hts gl_X10_thrown rfl rfl rfl (by decide +kernel) ⟨Nat.le_of_ble_eq_true rfl, Nat.le_of_ble_eq_true rfl⟩) hK ((Foc.rgt _ _ []).subP hP) 0 rfl rfl rfl hl.1 rfl (Nat.le_of_ble_eq_true rfl) ⟨by omega, by omega⟩ dL_law_1797 ?_
  refine lv_iload hx hb dL_law_1800 (lv_at hl 1 rfl) ?_
  have st := st_oldest hG hn 
  have hk := st.code
  refine lv_icmp_eq (tgt := 1807) hx hb dL_law_1802 (by decide) (fun _ => ?_) (fun c1 => absurd hk c1)
  generalize hcd : (chkB ((firstC (O 0) ((O 0) 0 0) N).isSome) "java/util/NoSuchElementException") = cd at st hP hD hl
  cases cd with
  | none =>
    obtain ⟨eV, hG1⟩ := st.n
    refine lv_iload hx hb dL_law_1807 (lv_at hl 1 rfl) ?_
    refine lv_if_ne (tgt := 1824) hx hb dL_law_1809 (by decide) (fun c1 => absurd rfl c1) (fun _ => ?_)
    have hP : va_P D vwCl ((OUT T ob (vp_updL fo 0 (((firstC (O 0) ((O 0) 0 0) N).elim 0 nI).toInt64)) :: WIN T v B O g ln un nx pl f0 f1 f2) ++ REF T b (yS y 3 (if (oldR (y 1) N).isSome then 0 else 1)) w) H := hP
    have hD : va_D A ((OUT T ob (vp_updL fo 0 (((firstC (O 0) ((O 0) 0 0) N).elim 0 nI).toInt64)) :: WIN T v B O g ln un nx pl f0 f1 f2) ++ REF T b (yS y 3 (if (oldR (y 1) N).isSome then 0 else 1)) w) := hD
    refine lv_aload_n hx hb dL_law_1812 rfl (lv_at hl 5 rfl) ?_
    refine lv_iconst (v := 0) hx hb dL_law_1813 (by decide) ?_
    refine laldO hx hb hK hP dL_law_1814 ?_
    refine lv_iload hx hb dL_law_1815 (lv_at hl 0 rfl) ?_
    refine lv_i2l (v := ((oldR (y 1) N).elim 0 nI).toInt64) hx hb dL_law_1817 rfl ?_
    refine W.lcmp hx hb dL_law_1818 ?_
    refine lv_if_eq (tgt := 1824) hx hb dL_law_1819 (by decide) (fun _ => ?_) (fun c1 => absurd ((lg_cmp_eq _ _).mpr eV) c1)
    refine lv_goto (tgt := 3239) hx hb dL_law_1824 (by decide) ?_
    refine W.widen (k := cells + 5) (n := slots + 30) (by omega) (by omega) ?_
    have hP : va_P D vwCl ((OUT T ob (vp_updL fo 0 (((firstC (O 0) ((O 0) 0 0) N).elim 0 nI).toInt64)) :: WIN T v B O g ln un nx pl f0 f1 f2) ++ REF T b (yS y 3 (if (oldR (y 1) N).isSome then 0 else 1)) w) H := hP
    have hD : va_D A ((OUT T ob (vp_updL fo 0 (((firstC (O 0) ((O 0) 0 0) N).elim 0 nI).toInt64)) :: WIN T v B O g ln un nx pl f0 f1 f2) ++ REF T b (yS y 3 (if (oldR (y 1) N).isSome then 0 else 1)) w) := hD
    exact kk _ _ _ ⟨O, g, ln, un, nx, pl, f0, f1, f2, (yS y 3 (if (oldR (y 1) N).isSome then 0 else 1)), w, (vp_updL fo 0 (((firstC (O 0) ((O 0) 0 0) N).elim 0 nI).toInt64)), hP, hD, hS, hG1, lv_sub hl [2, 3, 4, 5, 6] rfl⟩
  | some E =>
    have hG1 := st.s
    refine lv_iload hx hb dL_law_1807 (lv_at hl 1 rfl) ?_
    refine lv_if_ne (tgt := 1824) hx hb dL_law_1809 (by decide) (fun _ => ?_) (fun c1 => absurd c1 kC_some)
    refine lv_goto (tgt := 3239) hx hb dL_law_1824 (by decide) ?_
    refine W.widen (k := cells + 5) (n := slots + 30) (by omega) (by omega) ?_
    have hP : va_P D vwCl ((OUT T ob fo :: WIN T v B O g ln un nx pl f0 f1 f2) ++ REF T b (yS y 3 (if (oldR (y 1) N).isSome then 0 else 1)) w) H := hP
    have hD : va_D A ((OUT T ob fo :: WIN T v B O g ln un nx pl f0 f1 f2) ++ REF T b (yS y 3 (if (oldR (y 1) N).isSome then 0 else 1)) w) := hD
    exact kk _ _ _ ⟨O, g, ln, un, nx, pl, f0, f1, f2, (yS y 3 (if (oldR (y 1) N).isSome then 0 else 1)), w, fo, hP, hD, hS, hG1, lv_sub hl [2, 3, 4, 5, 6] rfl⟩

set_option maxHeartbeats 4000000 in
set_option maxRecDepth 100000 in
theorem arm_35 (X : LCX p l s m args c D T aK aV A sc L xs) {i : Nat} (hi : i + 6 ≤ L) {H : Heap} {locs : List Loc} {ls : Array Slot} {cells slots : Nat} (hcs : cells + 5 ≤ room_1.cells ∧ slots + 30 ≤ room_1.slots) (h : LST s D T A sc v B b ob i H locs ls) (kk : ∀ (H1 : Heap) (locs1 : List Loc) (ls1 : Array Slot), LST s D T A sc v B b ob i H1 locs1 ls1 → W p l e room_1 s m args below meth c H1 locs1 (cells + 5) (slots + 30) Q (F0 m 3239 ls1 [])) : W p l e room_1 s m args below meth c H locs cells slots Q (F0 m 1827 ls []) := by
  obtain ⟨hl9, hx, hb, hml, hown, hts, hX, hsc, hscA, hA, hC, hN, hK, hL⟩ := X
  obtain ⟨O, g, ln, un, nx, pl, f0, f1, f2, y, w, fo, hP, hD, hS, hG, hl⟩ := h
  obtain ⟨N, K, C, nt, hn, h9⟩ := id hG.1
  refine lv_aload_n hx hb dL_law_1827 rfl (lv_at hl 1 rfl) ?_
  refine lv_aload_n hx hb dL_law_1828 rfl (lv_at hl 3 rfl) ?_
  refine wlSi (As := [.ref (v 0), .ref ob]) (rest := []) ⟨hx, hb, hml, hown, hts⟩ (c_L_angriest l hl9 D T aK aV v B O g ln un nx pl f0 f1 f2 ob fo N K C nt hn.oi _) (vx_cwSW 2 hts gl_L_angriest rfl rfl rfl (by decide +kernel) ⟨Nat.le_of_ble_eq_true rfl, Nat.le_of_ble_eq_true rfl⟩) (Foc.lft _ _ _) hC hN hK hP hD hS hA rfl hl.1 rfl (Nat.le_of_ble_eq_true rfl) ⟨by omega, by omega⟩ dL_law_1829 (fun H locs hP hD hS => ?_)
  refine lv_istore (lv' := [(5, .int (kC "java/util/NoSuchElementException" (chkB ((mostC (O 0) 15 N).isSome) "java/util/NoSuchElementException"))), (0, .ref sc), (1, .ref (v 0)), (2, .ref (b 0)), (3, .ref ob), (4, .int (nI i))]) hx hb dL_law_1832 hl (by decide) rfl (fun ls hl => ?_)
  refine lv_aload_n hx hb dL_law_1834 rfl (lv_at hl 3 rfl) ?_
  refine wrVi (As := []) (rest := []) ⟨hx, hb, hml, hown, hts⟩ (c_X10_angriest l D T b y w N K C nt hn.ri _) (cwV 0 hts gl_X10_angriest rfl rfl rfl (by decide +kernel) ⟨Nat.le_of_ble_eq_true rfl, Nat.le_of_ble_eq_true rfl⟩) (Foc.rgt _ _ _) hK hP hD hS hA 0 rfl rfl rfl hl.1 rfl (Nat.le_of_ble_eq_true rfl) ⟨by omega, by omega⟩ dL_law_1835 (fun H locs hP hD hS => ?_)
  refine lv_istore (lv' := [(6, .int ((angR0 (y 1) N).elim 0 nI)), (5, .int (kC "java/util/NoSuchElementException" (chkB ((mostC (O 0) 15 N).isSome) "java/util/NoSuchElementException"))), (0, .ref sc), (1, .ref (v 0)), (2, .ref (b 0)), (3, .ref ob), (4, .int (nI i))]) hx hb dL_law_1838 hl (by decide) rfl (fun ls hl => ?_)
  refine lv_aload_n hx hb dL_law_1840 rfl (lv_at hl 4 rfl) ?_
  refine rdV (As := []) (rest := []) ⟨hx, hb, hml, hown, hts⟩ (c_X10_thrown l D T b (yS y 3 (if (angR0 (y 1) N).isSome then 0 else 1)) w) (cwV 0 hts gl_X10_thrown rfl rfl rfl (by decide +kernel) ⟨Nat.le_of_ble_eq_true rfl, Nat.le_of_ble_eq_true rfl⟩) hK ((Foc.rgt _ _ []).subP hP) 0 rfl rfl rfl hl.1 rfl (Nat.le_of_ble_eq_true rfl) ⟨by omega, by omega⟩ dL_law_1841 ?_
  refine lv_iload hx hb dL_law_1844 (lv_at hl 1 rfl) ?_
  have st := st_angriest hG hn 
  have hk := st.code
  refine lv_icmp_eq (tgt := 1851) hx hb dL_law_1846 (by decide) (fun _ => ?_) (fun c1 => absurd hk c1)
  generalize hcd : (chkB ((mostC (O 0) 15 N).isSome) "java/util/NoSuchElementException") = cd at st hP hD hl
  cases cd with
  | none =>
    obtain ⟨eV, hG1⟩ := st.n
    refine lv_iload hx hb dL_law_1851 (lv_at hl 1 rfl) ?_
    refine lv_if_ne (tgt := 1868) hx hb dL_law_1853 (by decide) (fun c1 => absurd rfl c1) (fun _ => ?_)
    have hP : va_P D vwCl ((OUT T ob (vp_updL fo 0 (((mostC (O 0) 15 N).elim 0 nI).toInt64)) :: WIN T v B O g ln un nx pl f0 f1 f2) ++ REF T b (yS y 3 (if (angR0 (y 1) N).isSome then 0 else 1)) w) H := hP
    have hD : va_D A ((OUT T ob (vp_updL fo 0 (((mostC (O 0) 15 N).elim 0 nI).toInt64)) :: WIN T v B O g ln un nx pl f0 f1 f2) ++ REF T b (yS y 3 (if (angR0 (y 1) N).isSome then 0 else 1)) w) := hD
    refine lv_aload_n hx hb dL_law_1856 rfl (lv_at hl 5 rfl) ?_
    refine lv_iconst (v := 0) hx hb dL_law_1857 (by decide) ?_
    refine laldO hx hb hK hP dL_law_1858 ?_
    refine lv_iload hx hb dL_law_1859 (lv_at hl 0 rfl) ?_
    refine lv_i2l (v := ((angR0 (y 1) N).elim 0 nI).toInt64) hx hb dL_law_1861 rfl ?_
    refine W.lcmp hx hb dL_law_1862 ?_
    refine lv_if_eq (tgt := 1868) hx hb dL_law_1863 (by decide) (fun _ => ?_) (fun c1 => absurd ((lg_cmp_eq _ _).mpr eV) c1)
    refine lv_goto (tgt := 3239) hx hb dL_law_1868 (by decide) ?_
    refine W.widen (k := cells + 5) (n := slots + 30) (by omega) (by omega) ?_
    have hP : va_P D vwCl ((OUT T ob (vp_updL fo 0 (((mostC (O 0) 15 N).elim 0 nI).toInt64)) :: WIN T v B O g ln un nx pl f0 f1 f2) ++ REF T b (yS y 3 (if (angR0 (y 1) N).isSome then 0 else 1)) w) H := hP
    have hD : va_D A ((OUT T ob (vp_updL fo 0 (((mostC (O 0) 15 N).elim 0 nI).toInt64)) :: WIN T v B O g ln un nx pl f0 f1 f2) ++ REF T b (yS y 3 (if (angR0 (y 1) N).isSome then 0 else 1)) w) := hD
    exact kk _ _ _ ⟨O, g, ln, un, nx, pl, f0, f1, f2, (yS y 3 (if (angR0 (y 1) N).isSome then 0 else 1)), w, (vp_updL fo 0 (((mostC (O 0) 15 N).elim 0 nI).toInt64)), hP, hD, hS, hG1, lv_sub hl [2, 3, 4, 5, 6] rfl⟩
  | some E =>
    have hG1 := st.s
    refine lv_iload hx hb dL_law_1851 (lv_at hl 1 rfl) ?_
    refine lv_if_ne (tgt := 1868) hx hb dL_law_1853 (by decide) (fun _ => ?_) (fun c1 => absurd c1 kC_some)
    refine lv_goto (tgt := 3239) hx hb dL_law_1868 (by decide) ?_
    refine W.widen (k := cells + 5) (n := slots + 30) (by omega) (by omega) ?_
    have hP : va_P D vwCl ((OUT T ob fo :: WIN T v B O g ln un nx pl f0 f1 f2) ++ REF T b (yS y 3 (if (angR0 (y 1) N).isSome then 0 else 1)) w) H := hP
    have hD : va_D A ((OUT T ob fo :: WIN T v B O g ln un nx pl f0 f1 f2) ++ REF T b (yS y 3 (if (angR0 (y 1) N).isSome then 0 else 1)) w) := hD
    exact kk _ _ _ ⟨O, g, ln, un, nx, pl, f0, f1, f2, (yS y 3 (if (angR0 (y 1) N).isSome then 0 else 1)), w, fo, hP, hD, hS, hG1, lv_sub hl [2, 3, 4, 5, 6] rfl⟩

set_option maxHeartbeats 4000000 in
set_option maxRecDepth 100000 in
theorem arm_36 (X : LCX p l s m args c D T aK aV A sc L xs) {i : Nat} (hi : i + 6 ≤ L) {H : Heap} {locs : List Loc} {ls : Array Slot} {cells slots : Nat} (hcs : cells + 5 ≤ room_1.cells ∧ slots + 30 ≤ room_1.slots) (h : LST s D T A sc v B b ob i H locs ls) (kk : ∀ (H1 : Heap) (locs1 : List Loc) (ls1 : Array Slot), LST s D T A sc v B b ob i H1 locs1 ls1 → W p l e room_1 s m args below meth c H1 locs1 (cells + 5) (slots + 30) Q (F0 m 3239 ls1 [])) : W p l e room_1 s m args below meth c H locs cells slots Q (F0 m 1871 ls []) := by
  obtain ⟨hl9, hx, hb, hml, hown, hts, hX, hsc, hscA, hA, hC, hN, hK, hL⟩ := X
  obtain ⟨O, g, ln, un, nx, pl, f0, f1, f2, y, w, fo, hP, hD, hS, hG, hl⟩ := h
  obtain ⟨N, K, C, nt, hn, h9⟩ := id hG.1
  obtain ⟨z1, hz1⟩ : ∃ z, xs (i + 1) = z := ⟨_, rfl⟩
  refine lv_aload_n hx hb dL_law_1871 rfl (lv_at hl 1 rfl) ?_
  refine lv_aload_n hx hb dL_law_1872 rfl (lv_at hl 0 rfl) ?_
  refine lv_iload hx hb dL_law_1873 (lv_at hl 4 rfl) ?_
  refine lv_iconst (v := 1) hx hb dL_law_1875 (by decide) ?_
  refine lv_iadd hx hb dL_law_1876 ?_
  refine endI (r := nI (i + 1)) (nI_add i 1) ?_
  refine sldN hx hb hX hsc hscA hS hz1 (by omega) hL dL_law_1877 ?_
  refine lv_aload_n hx hb dL_law_1878 rfl (lv_at hl 3 rfl) ?_
  refine wlSi (As := [.ref (v 0), .int z1, .ref ob]) (rest := []) ⟨hx, hb, hml, hown, hts⟩ (c_L_complaintsOf l hl9 D T aK aV v B O g ln un nx pl f0 f1 f2 ob fo z1 N K C nt hn.oi _) (vx_cwSW 3 hts gl_L_complaintsOf rfl rfl rfl (by decide +kernel) ⟨Nat.le_of_ble_eq_true rfl, Nat.le_of_ble_eq_true rfl⟩) (Foc.lft _ _ _) hC hN hK hP hD hS hA rfl hl.1 rfl (Nat.le_of_ble_eq_true rfl) ⟨by omega, by omega⟩ dL_law_1879 (fun H locs hP hD hS => ?_)
  refine lv_istore (lv' := [(5, .int (kC "java/lang/IllegalArgumentException" (chkB (rg z1 0 99) "java/lang/IllegalArgumentException"))), (0, .ref sc), (1, .ref (v 0)), (2, .ref (b 0)), (3, .ref ob), (4, .int (nI i))]) hx hb dL_law_1882 hl (by decide) rfl (fun ls hl => ?_)
  refine lv_aload_n hx hb dL_law_1884 rfl (lv_at hl 3 rfl) ?_
  refine lv_aload_n hx hb dL_law_1885 rfl (lv_at hl 1 rfl) ?_
  refine lv_iload hx hb dL_law_1886 (lv_at hl 5 rfl) ?_
  refine lv_iconst (v := 1) hx hb dL_law_1888 (by decide) ?_
  refine lv_iadd hx hb dL_law_1889 ?_
  refine endI (r := nI (i + 1)) (nI_add i 1) ?_
  refine sldN hx hb hX hsc hscA hS hz1 (by omega) hL dL_law_1890 ?_
  refine wrVi (As := [.int z1]) (rest := []) ⟨hx, hb, hml, hown, hts⟩ (c_X10_complaintsOf l D T b y w z1 N K C nt hn.ri _) (cwV 1 hts gl_X10_complaintsOf rfl rfl rfl (by decide +kernel) ⟨Nat.le_of_ble_eq_true rfl, Nat.le_of_ble_eq_true rfl⟩) (Foc.rgt _ _ _) hK hP hD hS hA 0 rfl rfl rfl hl.1 rfl (Nat.le_of_ble_eq_true rfl) ⟨by omega, by omega⟩ dL_law_1891 (fun H locs hP hD hS => ?_)
  refine lv_istore (lv' := [(6, .int (if rg z1 0 99 then persR (y 1) z1 N else 0)), (5, .int (kC "java/lang/IllegalArgumentException" (chkB (rg z1 0 99) "java/lang/IllegalArgumentException"))), (0, .ref sc), (1, .ref (v 0)), (2, .ref (b 0)), (3, .ref ob), (4, .int (nI i))]) hx hb dL_law_1894 hl (by decide) rfl (fun ls hl => ?_)
  refine lv_aload_n hx hb dL_law_1896 rfl (lv_at hl 4 rfl) ?_
  refine rdV (As := []) (rest := []) ⟨hx, hb, hml, hown, hts⟩ (c_X10_thrown l D T b (yS y 3 (if rg z1 0 99 then 0 else 1)) w) (cwV 0 hts gl_X10_thrown rfl rfl rfl (by decide +kernel) ⟨Nat.le_of_ble_eq_true rfl, Nat.le_of_ble_eq_true rfl⟩) hK ((Foc.rgt _ _ []).subP hP) 0 rfl rfl rfl hl.1 rfl (Nat.le_of_ble_eq_true rfl) ⟨by omega, by omega⟩ dL_law_1897 ?_
  refine lv_iload hx hb dL_law_1900 (lv_at hl 1 rfl) ?_
  have st := st_complaintsOf hG hn z1
  have hk := st.code
  refine lv_icmp_eq (tgt := 1907) hx hb dL_law_1902 (by decide) (fun _ => ?_) (fun c1 => absurd hk c1)
  generalize hcd : (chkB (rg z1 0 99) "java/lang/IllegalArgumentException") = cd at st hP hD hl
  cases cd with
  | none =>
    obtain ⟨eV, hG1⟩ := st.n
    refine lv_iload hx hb dL_law_1907 (lv_at hl 1 rfl) ?_
    refine lv_if_ne (tgt := 1924) hx hb dL_law_1909 (by decide) (fun c1 => absurd rfl c1) (fun _ => ?_)
    have hP : va_P D vwCl ((OUT T ob (vp_updL fo 0 ((cntI (fun k => decide ((O 0) 4 k = z1)) N 0 0).toInt64)) :: WIN T v B O g ln un nx pl f0 f1 f2) ++ REF T b (yS y 3 (if rg z1 0 99 then 0 else 1)) w) H := hP
    have hD : va_D A ((OUT T ob (vp_updL fo 0 ((cntI (fun k => decide ((O 0) 4 k = z1)) N 0 0).toInt64)) :: WIN T v B O g ln un nx pl f0 f1 f2) ++ REF T b (yS y 3 (if rg z1 0 99 then 0 else 1)) w) := hD
    refine lv_aload_n hx hb dL_law_1912 rfl (lv_at hl 5 rfl) ?_
    refine lv_iconst (v := 0) hx hb dL_law_1913 (by decide) ?_
    refine laldO hx hb hK hP dL_law_1914 ?_
    refine lv_iload hx hb dL_law_1915 (lv_at hl 0 rfl) ?_
    refine lv_i2l (v := (if rg z1 0 99 then persR (y 1) z1 N else 0).toInt64) hx hb dL_law_1917 rfl ?_
    refine W.lcmp hx hb dL_law_1918 ?_
    refine lv_if_eq (tgt := 1924) hx hb dL_law_1919 (by decide) (fun _ => ?_) (fun c1 => absurd ((lg_cmp_eq _ _).mpr eV) c1)
    refine lv_goto (tgt := 3239) hx hb dL_law_1924 (by decide) ?_
    refine W.widen (k := cells + 5) (n := slots + 30) (by omega) (by omega) ?_
    have hP : va_P D vwCl ((OUT T ob (vp_updL fo 0 ((cntI (fun k => decide ((O 0) 4 k = z1)) N 0 0).toInt64)) :: WIN T v B O g ln un nx pl f0 f1 f2) ++ REF T b (yS y 3 (if rg z1 0 99 then 0 else 1)) w) H := hP
    have hD : va_D A ((OUT T ob (vp_updL fo 0 ((cntI (fun k => decide ((O 0) 4 k = z1)) N 0 0).toInt64)) :: WIN T v B O g ln un nx pl f0 f1 f2) ++ REF T b (yS y 3 (if rg z1 0 99 then 0 else 1)) w) := hD
    exact kk _ _ _ ⟨O, g, ln, un, nx, pl, f0, f1, f2, (yS y 3 (if rg z1 0 99 then 0 else 1)), w, (vp_updL fo 0 ((cntI (fun k => decide ((O 0) 4 k = z1)) N 0 0).toInt64)), hP, hD, hS, hG1, lv_sub hl [2, 3, 4, 5, 6] rfl⟩
  | some E =>
    have hG1 := st.s
    refine lv_iload hx hb dL_law_1907 (lv_at hl 1 rfl) ?_
    refine lv_if_ne (tgt := 1924) hx hb dL_law_1909 (by decide) (fun _ => ?_) (fun c1 => absurd c1 kC_some)
    refine lv_goto (tgt := 3239) hx hb dL_law_1924 (by decide) ?_
    refine W.widen (k := cells + 5) (n := slots + 30) (by omega) (by omega) ?_
    have hP : va_P D vwCl ((OUT T ob fo :: WIN T v B O g ln un nx pl f0 f1 f2) ++ REF T b (yS y 3 (if rg z1 0 99 then 0 else 1)) w) H := hP
    have hD : va_D A ((OUT T ob fo :: WIN T v B O g ln un nx pl f0 f1 f2) ++ REF T b (yS y 3 (if rg z1 0 99 then 0 else 1)) w) := hD
    exact kk _ _ _ ⟨O, g, ln, un, nx, pl, f0, f1, f2, (yS y 3 (if rg z1 0 99 then 0 else 1)), w, fo, hP, hD, hS, hG1, lv_sub hl [2, 3, 4, 5, 6] rfl⟩

set_option maxHeartbeats 4000000 in
set_option maxRecDepth 100000 in
theorem arm_37 (X : LCX p l s m args c D T aK aV A sc L xs) {i : Nat} (hi : i + 6 ≤ L) {H : Heap} {locs : List Loc} {ls : Array Slot} {cells slots : Nat} (hcs : cells + 5 ≤ room_1.cells ∧ slots + 30 ≤ room_1.slots) (h : LST s D T A sc v B b ob i H locs ls) (kk : ∀ (H1 : Heap) (locs1 : List Loc) (ls1 : Array Slot), LST s D T A sc v B b ob i H1 locs1 ls1 → W p l e room_1 s m args below meth c H1 locs1 (cells + 5) (slots + 30) Q (F0 m 3239 ls1 [])) : W p l e room_1 s m args below meth c H locs cells slots Q (F0 m 1927 ls []) := by
  obtain ⟨hl9, hx, hb, hml, hown, hts, hX, hsc, hscA, hA, hC, hN, hK, hL⟩ := X
  obtain ⟨O, g, ln, un, nx, pl, f0, f1, f2, y, w, fo, hP, hD, hS, hG, hl⟩ := h
  obtain ⟨N, K, C, nt, hn, h9⟩ := id hG.1
  refine lv_aload_n hx hb dL_law_1927 rfl (lv_at hl 1 rfl) ?_
  refine rdV (As := []) (rest := []) ⟨hx, hb, hml, hown, hts⟩ (c_X9_clerkCount l D T v B O g ln un nx pl f0 f1 f2) (cwV 0 hts gl_X9_clerkCount rfl rfl rfl (by decide +kernel) ⟨Nat.le_of_ble_eq_true rfl, Nat.le_of_ble_eq_true rfl⟩) hK ((Foc.mid _ _ [] _).subP hP) 0 rfl rfl rfl hl.1 rfl (Nat.le_of_ble_eq_true rfl) ⟨by omega, by omega⟩ dL_law_1928 ?_
  refine lv_aload_n hx hb dL_law_1931 rfl (lv_at hl 2 rfl) ?_
  refine wrVi (As := []) (rest := [.int ((O 0) 0 5)]) ⟨hx, hb, hml, hown, hts⟩ (c_X10_clerkCount l D T b y w _) (cwV 0 hts gl_X10_clerkCount rfl rfl rfl (by decide +kernel) ⟨Nat.le_of_ble_eq_true rfl, Nat.le_of_ble_eq_true rfl⟩) (Foc.rgt _ _ _) hK hP hD hS hA 0 rfl rfl rfl hl.1 rfl (Nat.le_of_ble_eq_true rfl) ⟨by omega, by omega⟩ dL_law_1932 (fun H locs hP hD hS => ?_)
  refine lv_icmp_eq (tgt := 3239) hx hb dL_law_1935 (by decide) (fun _ => ?_) (fun c1 => absurd (eq_clerkCount hn) c1)
  refine W.widen (k := cells + 5) (n := slots + 30) (by omega) (by omega) ?_
  have hP : va_P D vwCl ((OUT T ob fo :: WIN T v B O g ln un nx pl f0 f1 f2) ++ REF T b (yS y 3 0) w) H := hP
  have hD : va_D A ((OUT T ob fo :: WIN T v B O g ln un nx pl f0 f1 f2) ++ REF T b (yS y 3 0) w) := hD
  exact kk _ _ _ ⟨O, g, ln, un, nx, pl, f0, f1, f2, (yS y 3 0), w, fo, hP, hD, hS, (hG.thr 0), lv_sub hl [0, 1, 2, 3, 4] rfl⟩

set_option maxHeartbeats 4000000 in
set_option maxRecDepth 100000 in
theorem arm_38 (X : LCX p l s m args c D T aK aV A sc L xs) {i : Nat} (hi : i + 6 ≤ L) {H : Heap} {locs : List Loc} {ls : Array Slot} {cells slots : Nat} (hcs : cells + 5 ≤ room_1.cells ∧ slots + 30 ≤ room_1.slots) (h : LST s D T A sc v B b ob i H locs ls) (kk : ∀ (H1 : Heap) (locs1 : List Loc) (ls1 : Array Slot), LST s D T A sc v B b ob i H1 locs1 ls1 → W p l e room_1 s m args below meth c H1 locs1 (cells + 5) (slots + 30) Q (F0 m 3239 ls1 [])) : W p l e room_1 s m args below meth c H locs cells slots Q (F0 m 1940 ls []) := by
  obtain ⟨hl9, hx, hb, hml, hown, hts, hX, hsc, hscA, hA, hC, hN, hK, hL⟩ := X
  obtain ⟨O, g, ln, un, nx, pl, f0, f1, f2, y, w, fo, hP, hD, hS, hG, hl⟩ := h
  obtain ⟨N, K, C, nt, hn, h9⟩ := id hG.1
  refine lv_aload_n hx hb dL_law_1940 rfl (lv_at hl 1 rfl) ?_
  refine lv_aload_n hx hb dL_law_1941 rfl (lv_at hl 3 rfl) ?_
  refine wlSi (As := [.ref (v 0), .ref ob]) (rest := []) ⟨hx, hb, hml, hown, hts⟩ (c_L_darkestClerk l hl9 D T aK aV v B O g ln un nx pl f0 f1 f2 ob fo N K C nt hn.oi _) (vx_cwSW 2 hts gl_L_darkestClerk rfl rfl rfl (by decide +kernel) ⟨Nat.le_of_ble_eq_true rfl, Nat.le_of_ble_eq_true rfl⟩) (Foc.lft _ _ _) hC hN hK hP hD hS hA rfl hl.1 rfl (Nat.le_of_ble_eq_true rfl) ⟨by omega, by omega⟩ dL_law_1942 (fun H locs hP hD hS => ?_)
  refine lv_istore (lv' := [(5, .int (kC "java/util/NoSuchElementException" (chkB (((minF (fun _ => true) ((O 0) 3) K 0 (none, 100)).1).isSome) "java/util/NoSuchElementException"))), (0, .ref sc), (1, .ref (v 0)), (2, .ref (b 0)), (3, .ref ob), (4, .int (nI i))]) hx hb dL_law_1945 hl (by decide) rfl (fun ls hl => ?_)
  refine lv_aload_n hx hb dL_law_1947 rfl (lv_at hl 3 rfl) ?_
  refine wrVi (As := []) (rest := []) ⟨hx, hb, hml, hown, hts⟩ (c_X10_darkestClerk l D T b y w N K C nt hn.ri _) (cwV 0 hts gl_X10_darkestClerk rfl rfl rfl (by decide +kernel) ⟨Nat.le_of_ble_eq_true rfl, Nat.le_of_ble_eq_true rfl⟩) (Foc.rgt _ _ _) hK hP hD hS hA 0 rfl rfl rfl hl.1 rfl (Nat.le_of_ble_eq_true rfl) ⟨by omega, by omega⟩ dL_law_1948 (fun H locs hP hD hS => ?_)
  refine lv_istore (lv' := [(6, .int (if K = 0 then 0 else nI (darkR (y 1) K))), (5, .int (kC "java/util/NoSuchElementException" (chkB (((minF (fun _ => true) ((O 0) 3) K 0 (none, 100)).1).isSome) "java/util/NoSuchElementException"))), (0, .ref sc), (1, .ref (v 0)), (2, .ref (b 0)), (3, .ref ob), (4, .int (nI i))]) hx hb dL_law_1951 hl (by decide) rfl (fun ls hl => ?_)
  refine lv_aload_n hx hb dL_law_1953 rfl (lv_at hl 4 rfl) ?_
  refine rdV (As := []) (rest := []) ⟨hx, hb, hml, hown, hts⟩ (c_X10_thrown l D T b (yS y 3 (if K = 0 then 1 else 0)) w) (cwV 0 hts gl_X10_thrown rfl rfl rfl (by decide +kernel) ⟨Nat.le_of_ble_eq_true rfl, Nat.le_of_ble_eq_true rfl⟩) hK ((Foc.rgt _ _ []).subP hP) 0 rfl rfl rfl hl.1 rfl (Nat.le_of_ble_eq_true rfl) ⟨by omega, by omega⟩ dL_law_1954 ?_
  refine lv_iload hx hb dL_law_1957 (lv_at hl 1 rfl) ?_
  have st := st_darkestClerk hG hn 
  have hk := st.code
  refine lv_icmp_eq (tgt := 1964) hx hb dL_law_1959 (by decide) (fun _ => ?_) (fun c1 => absurd hk c1)
  generalize hcd : (chkB (((minF (fun _ => true) ((O 0) 3) K 0 (none, 100)).1).isSome) "java/util/NoSuchElementException") = cd at st hP hD hl
  cases cd with
  | none =>
    obtain ⟨eV, hG1⟩ := st.n
    refine lv_iload hx hb dL_law_1964 (lv_at hl 1 rfl) ?_
    refine lv_if_ne (tgt := 1981) hx hb dL_law_1966 (by decide) (fun c1 => absurd rfl c1) (fun _ => ?_)
    have hP : va_P D vwCl ((OUT T ob (vp_updL fo 0 ((((minF (fun _ => true) ((O 0) 3) K 0 (none, 100)).1).elim 0 nI).toInt64)) :: WIN T v B O g ln un nx pl f0 f1 f2) ++ REF T b (yS y 3 (if K = 0 then 1 else 0)) w) H := hP
    have hD : va_D A ((OUT T ob (vp_updL fo 0 ((((minF (fun _ => true) ((O 0) 3) K 0 (none, 100)).1).elim 0 nI).toInt64)) :: WIN T v B O g ln un nx pl f0 f1 f2) ++ REF T b (yS y 3 (if K = 0 then 1 else 0)) w) := hD
    refine lv_aload_n hx hb dL_law_1969 rfl (lv_at hl 5 rfl) ?_
    refine lv_iconst (v := 0) hx hb dL_law_1970 (by decide) ?_
    refine laldO hx hb hK hP dL_law_1971 ?_
    refine lv_iload hx hb dL_law_1972 (lv_at hl 0 rfl) ?_
    refine lv_i2l (v := (if K = 0 then 0 else nI (darkR (y 1) K)).toInt64) hx hb dL_law_1974 rfl ?_
    refine W.lcmp hx hb dL_law_1975 ?_
    refine lv_if_eq (tgt := 1981) hx hb dL_law_1976 (by decide) (fun _ => ?_) (fun c1 => absurd ((lg_cmp_eq _ _).mpr eV) c1)
    refine lv_goto (tgt := 3239) hx hb dL_law_1981 (by decide) ?_
    refine W.widen (k := cells + 5) (n := slots + 30) (by omega) (by omega) ?_
    have hP : va_P D vwCl ((OUT T ob (vp_updL fo 0 ((((minF (fun _ => true) ((O 0) 3) K 0 (none, 100)).1).elim 0 nI).toInt64)) :: WIN T v B O g ln un nx pl f0 f1 f2) ++ REF T b (yS y 3 (if K = 0 then 1 else 0)) w) H := hP
    have hD : va_D A ((OUT T ob (vp_updL fo 0 ((((minF (fun _ => true) ((O 0) 3) K 0 (none, 100)).1).elim 0 nI).toInt64)) :: WIN T v B O g ln un nx pl f0 f1 f2) ++ REF T b (yS y 3 (if K = 0 then 1 else 0)) w) := hD
    exact kk _ _ _ ⟨O, g, ln, un, nx, pl, f0, f1, f2, (yS y 3 (if K = 0 then 1 else 0)), w, (vp_updL fo 0 ((((minF (fun _ => true) ((O 0) 3) K 0 (none, 100)).1).elim 0 nI).toInt64)), hP, hD, hS, hG1, lv_sub hl [2, 3, 4, 5, 6] rfl⟩
  | some E =>
    have hG1 := st.s
    refine lv_iload hx hb dL_law_1964 (lv_at hl 1 rfl) ?_
    refine lv_if_ne (tgt := 1981) hx hb dL_law_1966 (by decide) (fun _ => ?_) (fun c1 => absurd c1 kC_some)
    refine lv_goto (tgt := 3239) hx hb dL_law_1981 (by decide) ?_
    refine W.widen (k := cells + 5) (n := slots + 30) (by omega) (by omega) ?_
    have hP : va_P D vwCl ((OUT T ob fo :: WIN T v B O g ln un nx pl f0 f1 f2) ++ REF T b (yS y 3 (if K = 0 then 1 else 0)) w) H := hP
    have hD : va_D A ((OUT T ob fo :: WIN T v B O g ln un nx pl f0 f1 f2) ++ REF T b (yS y 3 (if K = 0 then 1 else 0)) w) := hD
    exact kk _ _ _ ⟨O, g, ln, un, nx, pl, f0, f1, f2, (yS y 3 (if K = 0 then 1 else 0)), w, fo, hP, hD, hS, hG1, lv_sub hl [2, 3, 4, 5, 6] rfl⟩

set_option maxHeartbeats 4000000 in
set_option maxRecDepth 100000 in
theorem arm_39 (X : LCX p l s m args c D T aK aV A sc L xs) {i : Nat} (hi : i + 6 ≤ L) {H : Heap} {locs : List Loc} {ls : Array Slot} {cells slots : Nat} (hcs : cells + 5 ≤ room_1.cells ∧ slots + 30 ≤ room_1.slots) (h : LST s D T A sc v B b ob i H locs ls) (kk : ∀ (H1 : Heap) (locs1 : List Loc) (ls1 : Array Slot), LST s D T A sc v B b ob i H1 locs1 ls1 → W p l e room_1 s m args below meth c H1 locs1 (cells + 5) (slots + 30) Q (F0 m 3239 ls1 [])) : W p l e room_1 s m args below meth c H locs cells slots Q (F0 m 1984 ls []) := by
  obtain ⟨hl9, hx, hb, hml, hown, hts, hX, hsc, hscA, hA, hC, hN, hK, hL⟩ := X
  obtain ⟨O, g, ln, un, nx, pl, f0, f1, f2, y, w, fo, hP, hD, hS, hG, hl⟩ := h
  obtain ⟨N, K, C, nt, hn, h9⟩ := id hG.1
  obtain ⟨z1, hz1⟩ : ∃ z, xs (i + 1) = z := ⟨_, rfl⟩
  refine lv_aload_n hx hb dL_law_1984 rfl (lv_at hl 1 rfl) ?_
  refine lv_aload_n hx hb dL_law_1985 rfl (lv_at hl 0 rfl) ?_
  refine lv_iload hx hb dL_law_1986 (lv_at hl 4 rfl) ?_
  refine lv_iconst (v := 1) hx hb dL_law_1988 (by decide) ?_
  refine lv_iadd hx hb dL_law_1989 ?_
  refine endI (r := nI (i + 1)) (nI_add i 1) ?_
  refine sldN hx hb hX hsc hscA hS hz1 (by omega) hL dL_law_1990 ?_
  refine lv_aload_n hx hb dL_law_1991 rfl (lv_at hl 3 rfl) ?_
  refine wlSi (As := [.ref (v 0), .int z1, .ref ob]) (rest := []) ⟨hx, hb, hml, hown, hts⟩ (c_L_skillOf l hl9 D T aK aV v B O g ln un nx pl f0 f1 f2 ob fo z1 N K C nt hn.oi _) (vx_cwSW 3 hts gl_L_skillOf rfl rfl rfl (by decide +kernel) ⟨Nat.le_of_ble_eq_true rfl, Nat.le_of_ble_eq_true rfl⟩) (Foc.lft _ _ _) hC hN hK hP hD hS hA rfl hl.1 rfl (Nat.le_of_ble_eq_true rfl) ⟨by omega, by omega⟩ dL_law_1992 (fun H locs hP hD hS => ?_)
  refine lv_istore (lv' := [(5, .int (kC "java/lang/IndexOutOfBoundsException" (chkB (inN z1 K) "java/lang/IndexOutOfBoundsException"))), (0, .ref sc), (1, .ref (v 0)), (2, .ref (b 0)), (3, .ref ob), (4, .int (nI i))]) hx hb dL_law_1995 hl (by decide) rfl (fun ls hl => ?_)
  refine lv_aload_n hx hb dL_law_1997 rfl (lv_at hl 3 rfl) ?_
  refine lv_aload_n hx hb dL_law_1998 rfl (lv_at hl 1 rfl) ?_
  refine lv_iload hx hb dL_law_1999 (lv_at hl 5 rfl) ?_
  refine lv_iconst (v := 1) hx hb dL_law_2001 (by decide) ?_
  refine lv_iadd hx hb dL_law_2002 ?_
  refine endI (r := nI (i + 1)) (nI_add i 1) ?_
  refine sldN hx hb hX hsc hscA hS hz1 (by omega) hL dL_law_2003 ?_
  refine wrVi (As := [.int z1]) (rest := []) ⟨hx, hb, hml, hown, hts⟩ (c_X10_skillOf l D T b y w z1 N K C nt hn.ri _) (cwV 1 hts gl_X10_skillOf rfl rfl rfl (by decide +kernel) ⟨Nat.le_of_ble_eq_true rfl, Nat.le_of_ble_eq_true rfl⟩) (Foc.rgt _ _ _) hK hP hD hS hA 0 rfl rfl rfl hl.1 rfl (Nat.le_of_ble_eq_true rfl) ⟨by omega, by omega⟩ dL_law_2004 (fun H locs hP hD hS => ?_)
  refine lv_istore (lv' := [(6, .int (if inN z1 K then y 1 (19 + 3 * z1.toNatClampNeg) else 0)), (5, .int (kC "java/lang/IndexOutOfBoundsException" (chkB (inN z1 K) "java/lang/IndexOutOfBoundsException"))), (0, .ref sc), (1, .ref (v 0)), (2, .ref (b 0)), (3, .ref ob), (4, .int (nI i))]) hx hb dL_law_2007 hl (by decide) rfl (fun ls hl => ?_)
  refine lv_aload_n hx hb dL_law_2009 rfl (lv_at hl 4 rfl) ?_
  refine rdV (As := []) (rest := []) ⟨hx, hb, hml, hown, hts⟩ (c_X10_thrown l D T b (yS y 3 (if inN z1 K then 0 else 1)) w) (cwV 0 hts gl_X10_thrown rfl rfl rfl (by decide +kernel) ⟨Nat.le_of_ble_eq_true rfl, Nat.le_of_ble_eq_true rfl⟩) hK ((Foc.rgt _ _ []).subP hP) 0 rfl rfl rfl hl.1 rfl (Nat.le_of_ble_eq_true rfl) ⟨by omega, by omega⟩ dL_law_2010 ?_
  refine lv_iload hx hb dL_law_2013 (lv_at hl 1 rfl) ?_
  have st := st_skillOf hG hn z1
  have hk := st.code
  refine lv_icmp_eq (tgt := 2020) hx hb dL_law_2015 (by decide) (fun _ => ?_) (fun c1 => absurd hk c1)
  generalize hcd : (chkB (inN z1 K) "java/lang/IndexOutOfBoundsException") = cd at st hP hD hl
  cases cd with
  | none =>
    obtain ⟨eV, hG1⟩ := st.n
    refine lv_iload hx hb dL_law_2020 (lv_at hl 1 rfl) ?_
    refine lv_if_ne (tgt := 2037) hx hb dL_law_2022 (by decide) (fun c1 => absurd rfl c1) (fun _ => ?_)
    have hP : va_P D vwCl ((OUT T ob (vp_updL fo 0 (((O 0) 2 z1.toNatClampNeg).toInt64)) :: WIN T v B O g ln un nx pl f0 f1 f2) ++ REF T b (yS y 3 (if inN z1 K then 0 else 1)) w) H := hP
    have hD : va_D A ((OUT T ob (vp_updL fo 0 (((O 0) 2 z1.toNatClampNeg).toInt64)) :: WIN T v B O g ln un nx pl f0 f1 f2) ++ REF T b (yS y 3 (if inN z1 K then 0 else 1)) w) := hD
    refine lv_aload_n hx hb dL_law_2025 rfl (lv_at hl 5 rfl) ?_
    refine lv_iconst (v := 0) hx hb dL_law_2026 (by decide) ?_
    refine laldO hx hb hK hP dL_law_2027 ?_
    refine lv_iload hx hb dL_law_2028 (lv_at hl 0 rfl) ?_
    refine lv_i2l (v := (if inN z1 K then y 1 (19 + 3 * z1.toNatClampNeg) else 0).toInt64) hx hb dL_law_2030 rfl ?_
    refine W.lcmp hx hb dL_law_2031 ?_
    refine lv_if_eq (tgt := 2037) hx hb dL_law_2032 (by decide) (fun _ => ?_) (fun c1 => absurd ((lg_cmp_eq _ _).mpr eV) c1)
    refine lv_goto (tgt := 3239) hx hb dL_law_2037 (by decide) ?_
    refine W.widen (k := cells + 5) (n := slots + 30) (by omega) (by omega) ?_
    have hP : va_P D vwCl ((OUT T ob (vp_updL fo 0 (((O 0) 2 z1.toNatClampNeg).toInt64)) :: WIN T v B O g ln un nx pl f0 f1 f2) ++ REF T b (yS y 3 (if inN z1 K then 0 else 1)) w) H := hP
    have hD : va_D A ((OUT T ob (vp_updL fo 0 (((O 0) 2 z1.toNatClampNeg).toInt64)) :: WIN T v B O g ln un nx pl f0 f1 f2) ++ REF T b (yS y 3 (if inN z1 K then 0 else 1)) w) := hD
    exact kk _ _ _ ⟨O, g, ln, un, nx, pl, f0, f1, f2, (yS y 3 (if inN z1 K then 0 else 1)), w, (vp_updL fo 0 (((O 0) 2 z1.toNatClampNeg).toInt64)), hP, hD, hS, hG1, lv_sub hl [2, 3, 4, 5, 6] rfl⟩
  | some E =>
    have hG1 := st.s
    refine lv_iload hx hb dL_law_2020 (lv_at hl 1 rfl) ?_
    refine lv_if_ne (tgt := 2037) hx hb dL_law_2022 (by decide) (fun _ => ?_) (fun c1 => absurd c1 kC_some)
    refine lv_goto (tgt := 3239) hx hb dL_law_2037 (by decide) ?_
    refine W.widen (k := cells + 5) (n := slots + 30) (by omega) (by omega) ?_
    have hP : va_P D vwCl ((OUT T ob fo :: WIN T v B O g ln un nx pl f0 f1 f2) ++ REF T b (yS y 3 (if inN z1 K then 0 else 1)) w) H := hP
    have hD : va_D A ((OUT T ob fo :: WIN T v B O g ln un nx pl f0 f1 f2) ++ REF T b (yS y 3 (if inN z1 K then 0 else 1)) w) := hD
    exact kk _ _ _ ⟨O, g, ln, un, nx, pl, f0, f1, f2, (yS y 3 (if inN z1 K then 0 else 1)), w, fo, hP, hD, hS, hG1, lv_sub hl [2, 3, 4, 5, 6] rfl⟩

set_option maxHeartbeats 4000000 in
set_option maxRecDepth 100000 in
theorem arm_40 (X : LCX p l s m args c D T aK aV A sc L xs) {i : Nat} (hi : i + 6 ≤ L) {H : Heap} {locs : List Loc} {ls : Array Slot} {cells slots : Nat} (hcs : cells + 5 ≤ room_1.cells ∧ slots + 30 ≤ room_1.slots) (h : LST s D T A sc v B b ob i H locs ls) (kk : ∀ (H1 : Heap) (locs1 : List Loc) (ls1 : Array Slot), LST s D T A sc v B b ob i H1 locs1 ls1 → W p l e room_1 s m args below meth c H1 locs1 (cells + 5) (slots + 30) Q (F0 m 3239 ls1 [])) : W p l e room_1 s m args below meth c H locs cells slots Q (F0 m 2040 ls []) := by
  obtain ⟨hl9, hx, hb, hml, hown, hts, hX, hsc, hscA, hA, hC, hN, hK, hL⟩ := X
  obtain ⟨O, g, ln, un, nx, pl, f0, f1, f2, y, w, fo, hP, hD, hS, hG, hl⟩ := h
  obtain ⟨N, K, C, nt, hn, h9⟩ := id hG.1
  obtain ⟨z1, hz1⟩ : ∃ z, xs (i + 1) = z := ⟨_, rfl⟩
  refine lv_aload_n hx hb dL_law_2040 rfl (lv_at hl 1 rfl) ?_
  refine lv_aload_n hx hb dL_law_2041 rfl (lv_at hl 0 rfl) ?_
  refine lv_iload hx hb dL_law_2042 (lv_at hl 4 rfl) ?_
  refine lv_iconst (v := 1) hx hb dL_law_2044 (by decide) ?_
  refine lv_iadd hx hb dL_law_2045 ?_
  refine endI (r := nI (i + 1)) (nI_add i 1) ?_
  refine sldN hx hb hX hsc hscA hS hz1 (by omega) hL dL_law_2046 ?_
  refine lv_aload_n hx hb dL_law_2047 rfl (lv_at hl 3 rfl) ?_
  refine wlSi (As := [.ref (v 0), .int z1, .ref ob]) (rest := []) ⟨hx, hb, hml, hown, hts⟩ (c_L_oilOf l hl9 D T aK aV v B O g ln un nx pl f0 f1 f2 ob fo z1 N K C nt hn.oi _) (vx_cwSW 3 hts gl_L_oilOf rfl rfl rfl (by decide +kernel) ⟨Nat.le_of_ble_eq_true rfl, Nat.le_of_ble_eq_true rfl⟩) (Foc.lft _ _ _) hC hN hK hP hD hS hA rfl hl.1 rfl (Nat.le_of_ble_eq_true rfl) ⟨by omega, by omega⟩ dL_law_2048 (fun H locs hP hD hS => ?_)
  refine lv_istore (lv' := [(5, .int (kC "java/lang/IndexOutOfBoundsException" (chkB (inN z1 K) "java/lang/IndexOutOfBoundsException"))), (0, .ref sc), (1, .ref (v 0)), (2, .ref (b 0)), (3, .ref ob), (4, .int (nI i))]) hx hb dL_law_2051 hl (by decide) rfl (fun ls hl => ?_)
  refine lv_aload_n hx hb dL_law_2053 rfl (lv_at hl 3 rfl) ?_
  refine lv_aload_n hx hb dL_law_2054 rfl (lv_at hl 1 rfl) ?_
  refine lv_iload hx hb dL_law_2055 (lv_at hl 5 rfl) ?_
  refine lv_iconst (v := 1) hx hb dL_law_2057 (by decide) ?_
  refine lv_iadd hx hb dL_law_2058 ?_
  refine endI (r := nI (i + 1)) (nI_add i 1) ?_
  refine sldN hx hb hX hsc hscA hS hz1 (by omega) hL dL_law_2059 ?_
  refine wrVi (As := [.int z1]) (rest := []) ⟨hx, hb, hml, hown, hts⟩ (c_X10_oilOf l D T b y w z1 N K C nt hn.ri _) (cwV 1 hts gl_X10_oilOf rfl rfl rfl (by decide +kernel) ⟨Nat.le_of_ble_eq_true rfl, Nat.le_of_ble_eq_true rfl⟩) (Foc.rgt _ _ _) hK hP hD hS hA 0 rfl rfl rfl hl.1 rfl (Nat.le_of_ble_eq_true rfl) ⟨by omega, by omega⟩ dL_law_2060 (fun H locs hP hD hS => ?_)
  refine lv_istore (lv' := [(6, .int (if inN z1 K then y 1 (19 + 3 * z1.toNatClampNeg + 1) else 0)), (5, .int (kC "java/lang/IndexOutOfBoundsException" (chkB (inN z1 K) "java/lang/IndexOutOfBoundsException"))), (0, .ref sc), (1, .ref (v 0)), (2, .ref (b 0)), (3, .ref ob), (4, .int (nI i))]) hx hb dL_law_2063 hl (by decide) rfl (fun ls hl => ?_)
  refine lv_aload_n hx hb dL_law_2065 rfl (lv_at hl 4 rfl) ?_
  refine rdV (As := []) (rest := []) ⟨hx, hb, hml, hown, hts⟩ (c_X10_thrown l D T b (yS y 3 (if inN z1 K then 0 else 1)) w) (cwV 0 hts gl_X10_thrown rfl rfl rfl (by decide +kernel) ⟨Nat.le_of_ble_eq_true rfl, Nat.le_of_ble_eq_true rfl⟩) hK ((Foc.rgt _ _ []).subP hP) 0 rfl rfl rfl hl.1 rfl (Nat.le_of_ble_eq_true rfl) ⟨by omega, by omega⟩ dL_law_2066 ?_
  refine lv_iload hx hb dL_law_2069 (lv_at hl 1 rfl) ?_
  have st := st_oilOf hG hn z1
  have hk := st.code
  refine lv_icmp_eq (tgt := 2076) hx hb dL_law_2071 (by decide) (fun _ => ?_) (fun c1 => absurd hk c1)
  generalize hcd : (chkB (inN z1 K) "java/lang/IndexOutOfBoundsException") = cd at st hP hD hl
  cases cd with
  | none =>
    obtain ⟨eV, hG1⟩ := st.n
    refine lv_iload hx hb dL_law_2076 (lv_at hl 1 rfl) ?_
    refine lv_if_ne (tgt := 2093) hx hb dL_law_2078 (by decide) (fun c1 => absurd rfl c1) (fun _ => ?_)
    have hP : va_P D vwCl ((OUT T ob (vp_updL fo 0 (((O 0) 3 z1.toNatClampNeg).toInt64)) :: WIN T v B O g ln un nx pl f0 f1 f2) ++ REF T b (yS y 3 (if inN z1 K then 0 else 1)) w) H := hP
    have hD : va_D A ((OUT T ob (vp_updL fo 0 (((O 0) 3 z1.toNatClampNeg).toInt64)) :: WIN T v B O g ln un nx pl f0 f1 f2) ++ REF T b (yS y 3 (if inN z1 K then 0 else 1)) w) := hD
    refine lv_aload_n hx hb dL_law_2081 rfl (lv_at hl 5 rfl) ?_
    refine lv_iconst (v := 0) hx hb dL_law_2082 (by decide) ?_
    refine laldO hx hb hK hP dL_law_2083 ?_
    refine lv_iload hx hb dL_law_2084 (lv_at hl 0 rfl) ?_
    refine lv_i2l (v := (if inN z1 K then y 1 (19 + 3 * z1.toNatClampNeg + 1) else 0).toInt64) hx hb dL_law_2086 rfl ?_
    refine W.lcmp hx hb dL_law_2087 ?_
    refine lv_if_eq (tgt := 2093) hx hb dL_law_2088 (by decide) (fun _ => ?_) (fun c1 => absurd ((lg_cmp_eq _ _).mpr eV) c1)
    refine lv_goto (tgt := 3239) hx hb dL_law_2093 (by decide) ?_
    refine W.widen (k := cells + 5) (n := slots + 30) (by omega) (by omega) ?_
    have hP : va_P D vwCl ((OUT T ob (vp_updL fo 0 (((O 0) 3 z1.toNatClampNeg).toInt64)) :: WIN T v B O g ln un nx pl f0 f1 f2) ++ REF T b (yS y 3 (if inN z1 K then 0 else 1)) w) H := hP
    have hD : va_D A ((OUT T ob (vp_updL fo 0 (((O 0) 3 z1.toNatClampNeg).toInt64)) :: WIN T v B O g ln un nx pl f0 f1 f2) ++ REF T b (yS y 3 (if inN z1 K then 0 else 1)) w) := hD
    exact kk _ _ _ ⟨O, g, ln, un, nx, pl, f0, f1, f2, (yS y 3 (if inN z1 K then 0 else 1)), w, (vp_updL fo 0 (((O 0) 3 z1.toNatClampNeg).toInt64)), hP, hD, hS, hG1, lv_sub hl [2, 3, 4, 5, 6] rfl⟩
  | some E =>
    have hG1 := st.s
    refine lv_iload hx hb dL_law_2076 (lv_at hl 1 rfl) ?_
    refine lv_if_ne (tgt := 2093) hx hb dL_law_2078 (by decide) (fun _ => ?_) (fun c1 => absurd c1 kC_some)
    refine lv_goto (tgt := 3239) hx hb dL_law_2093 (by decide) ?_
    refine W.widen (k := cells + 5) (n := slots + 30) (by omega) (by omega) ?_
    have hP : va_P D vwCl ((OUT T ob fo :: WIN T v B O g ln un nx pl f0 f1 f2) ++ REF T b (yS y 3 (if inN z1 K then 0 else 1)) w) H := hP
    have hD : va_D A ((OUT T ob fo :: WIN T v B O g ln un nx pl f0 f1 f2) ++ REF T b (yS y 3 (if inN z1 K then 0 else 1)) w) := hD
    exact kk _ _ _ ⟨O, g, ln, un, nx, pl, f0, f1, f2, (yS y 3 (if inN z1 K then 0 else 1)), w, fo, hP, hD, hS, hG1, lv_sub hl [2, 3, 4, 5, 6] rfl⟩

set_option maxHeartbeats 4000000 in
set_option maxRecDepth 100000 in
theorem arm_41 (X : LCX p l s m args c D T aK aV A sc L xs) {i : Nat} (hi : i + 6 ≤ L) {H : Heap} {locs : List Loc} {ls : Array Slot} {cells slots : Nat} (hcs : cells + 5 ≤ room_1.cells ∧ slots + 30 ≤ room_1.slots) (h : LST s D T A sc v B b ob i H locs ls) (kk : ∀ (H1 : Heap) (locs1 : List Loc) (ls1 : Array Slot), LST s D T A sc v B b ob i H1 locs1 ls1 → W p l e room_1 s m args below meth c H1 locs1 (cells + 5) (slots + 30) Q (F0 m 3239 ls1 [])) : W p l e room_1 s m args below meth c H locs cells slots Q (F0 m 2096 ls []) := by
  obtain ⟨hl9, hx, hb, hml, hown, hts, hX, hsc, hscA, hA, hC, hN, hK, hL⟩ := X
  obtain ⟨O, g, ln, un, nx, pl, f0, f1, f2, y, w, fo, hP, hD, hS, hG, hl⟩ := h
  obtain ⟨N, K, C, nt, hn, h9⟩ := id hG.1
  obtain ⟨z1, hz1⟩ : ∃ z, xs (i + 1) = z := ⟨_, rfl⟩
  refine lv_aload_n hx hb dL_law_2096 rfl (lv_at hl 1 rfl) ?_
  refine lv_aload_n hx hb dL_law_2097 rfl (lv_at hl 0 rfl) ?_
  refine lv_iload hx hb dL_law_2098 (lv_at hl 4 rfl) ?_
  refine lv_iconst (v := 1) hx hb dL_law_2100 (by decide) ?_
  refine lv_iadd hx hb dL_law_2101 ?_
  refine endI (r := nI (i + 1)) (nI_add i 1) ?_
  refine sldN hx hb hX hsc hscA hS hz1 (by omega) hL dL_law_2102 ?_
  refine lv_aload_n hx hb dL_law_2103 rfl (lv_at hl 3 rfl) ?_
  refine wlSi (As := [.ref (v 0), .int z1, .ref ob]) (rest := []) ⟨hx, hb, hml, hown, hts⟩ (c_L_answeredBy l hl9 D T aK aV v B O g ln un nx pl f0 f1 f2 ob fo z1 N K C nt hn.oi _) (vx_cwSW 3 hts gl_L_answeredBy rfl rfl rfl (by decide +kernel) ⟨Nat.le_of_ble_eq_true rfl, Nat.le_of_ble_eq_true rfl⟩) (Foc.lft _ _ _) hC hN hK hP hD hS hA rfl hl.1 rfl (Nat.le_of_ble_eq_true rfl) ⟨by omega, by omega⟩ dL_law_2104 (fun H locs hP hD hS => ?_)
  refine lv_istore (lv' := [(5, .int (kC "java/lang/IndexOutOfBoundsException" (chkB (inN z1 K) "java/lang/IndexOutOfBoundsException"))), (0, .ref sc), (1, .ref (v 0)), (2, .ref (b 0)), (3, .ref ob), (4, .int (nI i))]) hx hb dL_law_2107 hl (by decide) rfl (fun ls hl => ?_)
  refine lv_aload_n hx hb dL_law_2109 rfl (lv_at hl 3 rfl) ?_
  refine lv_aload_n hx hb dL_law_2110 rfl (lv_at hl 1 rfl) ?_
  refine lv_iload hx hb dL_law_2111 (lv_at hl 5 rfl) ?_
  refine lv_iconst (v := 1) hx hb dL_law_2113 (by decide) ?_
  refine lv_iadd hx hb dL_law_2114 ?_
  refine endI (r := nI (i + 1)) (nI_add i 1) ?_
  refine sldN hx hb hX hsc hscA hS hz1 (by omega) hL dL_law_2115 ?_
  refine wrVi (As := [.int z1]) (rest := []) ⟨hx, hb, hml, hown, hts⟩ (c_X10_answeredBy l D T b y w z1 N K C nt hn.ri _) (cwV 1 hts gl_X10_answeredBy rfl rfl rfl (by decide +kernel) ⟨Nat.le_of_ble_eq_true rfl, Nat.le_of_ble_eq_true rfl⟩) (Foc.rgt _ _ _) hK hP hD hS hA 0 rfl rfl rfl hl.1 rfl (Nat.le_of_ble_eq_true rfl) ⟨by omega, by omega⟩ dL_law_2116 (fun H locs hP hD hS => ?_)
  refine lv_istore (lv' := [(6, .int (if inN z1 K then y 1 (19 + 3 * z1.toNatClampNeg + 2) else 0)), (5, .int (kC "java/lang/IndexOutOfBoundsException" (chkB (inN z1 K) "java/lang/IndexOutOfBoundsException"))), (0, .ref sc), (1, .ref (v 0)), (2, .ref (b 0)), (3, .ref ob), (4, .int (nI i))]) hx hb dL_law_2119 hl (by decide) rfl (fun ls hl => ?_)
  refine lv_aload_n hx hb dL_law_2121 rfl (lv_at hl 4 rfl) ?_
  refine rdV (As := []) (rest := []) ⟨hx, hb, hml, hown, hts⟩ (c_X10_thrown l D T b (yS y 3 (if inN z1 K then 0 else 1)) w) (cwV 0 hts gl_X10_thrown rfl rfl rfl (by decide +kernel) ⟨Nat.le_of_ble_eq_true rfl, Nat.le_of_ble_eq_true rfl⟩) hK ((Foc.rgt _ _ []).subP hP) 0 rfl rfl rfl hl.1 rfl (Nat.le_of_ble_eq_true rfl) ⟨by omega, by omega⟩ dL_law_2122 ?_
  refine lv_iload hx hb dL_law_2125 (lv_at hl 1 rfl) ?_
  have st := st_answeredBy hG hn z1
  have hk := st.code
  refine lv_icmp_eq (tgt := 2132) hx hb dL_law_2127 (by decide) (fun _ => ?_) (fun c1 => absurd hk c1)
  generalize hcd : (chkB (inN z1 K) "java/lang/IndexOutOfBoundsException") = cd at st hP hD hl
  cases cd with
  | none =>
    obtain ⟨eV, hG1⟩ := st.n
    refine lv_iload hx hb dL_law_2132 (lv_at hl 1 rfl) ?_
    refine lv_if_ne (tgt := 2149) hx hb dL_law_2134 (by decide) (fun c1 => absurd rfl c1) (fun _ => ?_)
    have hP : va_P D vwCl ((OUT T ob (vp_updL fo 0 ((cntI (fun k => decide ((O 0) 8 k = 1) && decide ((O 0) 10 k = z1)) N 0 0).toInt64)) :: WIN T v B O g ln un nx pl f0 f1 f2) ++ REF T b (yS y 3 (if inN z1 K then 0 else 1)) w) H := hP
    have hD : va_D A ((OUT T ob (vp_updL fo 0 ((cntI (fun k => decide ((O 0) 8 k = 1) && decide ((O 0) 10 k = z1)) N 0 0).toInt64)) :: WIN T v B O g ln un nx pl f0 f1 f2) ++ REF T b (yS y 3 (if inN z1 K then 0 else 1)) w) := hD
    refine lv_aload_n hx hb dL_law_2137 rfl (lv_at hl 5 rfl) ?_
    refine lv_iconst (v := 0) hx hb dL_law_2138 (by decide) ?_
    refine laldO hx hb hK hP dL_law_2139 ?_
    refine lv_iload hx hb dL_law_2140 (lv_at hl 0 rfl) ?_
    refine lv_i2l (v := (if inN z1 K then y 1 (19 + 3 * z1.toNatClampNeg + 2) else 0).toInt64) hx hb dL_law_2142 rfl ?_
    refine W.lcmp hx hb dL_law_2143 ?_
    refine lv_if_eq (tgt := 2149) hx hb dL_law_2144 (by decide) (fun _ => ?_) (fun c1 => absurd ((lg_cmp_eq _ _).mpr eV) c1)
    refine lv_goto (tgt := 3239) hx hb dL_law_2149 (by decide) ?_
    refine W.widen (k := cells + 5) (n := slots + 30) (by omega) (by omega) ?_
    have hP : va_P D vwCl ((OUT T ob (vp_updL fo 0 ((cntI (fun k => decide ((O 0) 8 k = 1) && decide ((O 0) 10 k = z1)) N 0 0).toInt64)) :: WIN T v B O g ln un nx pl f0 f1 f2) ++ REF T b (yS y 3 (if inN z1 K then 0 else 1)) w) H := hP
    have hD : va_D A ((OUT T ob (vp_updL fo 0 ((cntI (fun k => decide ((O 0) 8 k = 1) && decide ((O 0) 10 k = z1)) N 0 0).toInt64)) :: WIN T v B O g ln un nx pl f0 f1 f2) ++ REF T b (yS y 3 (if inN z1 K then 0 else 1)) w) := hD
    exact kk _ _ _ ⟨O, g, ln, un, nx, pl, f0, f1, f2, (yS y 3 (if inN z1 K then 0 else 1)), w, (vp_updL fo 0 ((cntI (fun k => decide ((O 0) 8 k = 1) && decide ((O 0) 10 k = z1)) N 0 0).toInt64)), hP, hD, hS, hG1, lv_sub hl [2, 3, 4, 5, 6] rfl⟩
  | some E =>
    have hG1 := st.s
    refine lv_iload hx hb dL_law_2132 (lv_at hl 1 rfl) ?_
    refine lv_if_ne (tgt := 2149) hx hb dL_law_2134 (by decide) (fun _ => ?_) (fun c1 => absurd c1 kC_some)
    refine lv_goto (tgt := 3239) hx hb dL_law_2149 (by decide) ?_
    refine W.widen (k := cells + 5) (n := slots + 30) (by omega) (by omega) ?_
    have hP : va_P D vwCl ((OUT T ob fo :: WIN T v B O g ln un nx pl f0 f1 f2) ++ REF T b (yS y 3 (if inN z1 K then 0 else 1)) w) H := hP
    have hD : va_D A ((OUT T ob fo :: WIN T v B O g ln un nx pl f0 f1 f2) ++ REF T b (yS y 3 (if inN z1 K then 0 else 1)) w) := hD
    exact kk _ _ _ ⟨O, g, ln, un, nx, pl, f0, f1, f2, (yS y 3 (if inN z1 K then 0 else 1)), w, fo, hP, hD, hS, hG1, lv_sub hl [2, 3, 4, 5, 6] rfl⟩

set_option maxHeartbeats 4000000 in
set_option maxRecDepth 100000 in
theorem arm_42 (X : LCX p l s m args c D T aK aV A sc L xs) {i : Nat} (hi : i + 6 ≤ L) {H : Heap} {locs : List Loc} {ls : Array Slot} {cells slots : Nat} (hcs : cells + 5 ≤ room_1.cells ∧ slots + 30 ≤ room_1.slots) (h : LST s D T A sc v B b ob i H locs ls) (kk : ∀ (H1 : Heap) (locs1 : List Loc) (ls1 : Array Slot), LST s D T A sc v B b ob i H1 locs1 ls1 → W p l e room_1 s m args below meth c H1 locs1 (cells + 5) (slots + 30) Q (F0 m 3239 ls1 [])) : W p l e room_1 s m args below meth c H locs cells slots Q (F0 m 2152 ls []) := by
  obtain ⟨hl9, hx, hb, hml, hown, hts, hX, hsc, hscA, hA, hC, hN, hK, hL⟩ := X
  obtain ⟨O, g, ln, un, nx, pl, f0, f1, f2, y, w, fo, hP, hD, hS, hG, hl⟩ := h
  obtain ⟨N, K, C, nt, hn, h9⟩ := id hG.1
  refine lv_aload_n hx hb dL_law_2152 rfl (lv_at hl 1 rfl) ?_
  refine rdV (As := []) (rest := []) ⟨hx, hb, hml, hown, hts⟩ (c_X9_oilCost l D T v B O g ln un nx pl f0 f1 f2 N K C nt hn.oi) (cwV 0 hts gl_X9_oilCost rfl rfl rfl (by decide +kernel) ⟨Nat.le_of_ble_eq_true rfl, Nat.le_of_ble_eq_true rfl⟩) hK ((Foc.mid _ _ [] _).subP hP) 0 rfl rfl rfl hl.1 rfl (Nat.le_of_ble_eq_true rfl) ⟨by omega, by omega⟩ dL_law_2153 ?_
  refine lv_aload_n hx hb dL_law_2156 rfl (lv_at hl 2 rfl) ?_
  refine wrVi (As := []) (rest := [.int (costC C nt (O 0))]) ⟨hx, hb, hml, hown, hts⟩ (c_X10_oilCost l D T b y w N K C nt hn.ri _) (cwV 0 hts gl_X10_oilCost rfl rfl rfl (by decide +kernel) ⟨Nat.le_of_ble_eq_true rfl, Nat.le_of_ble_eq_true rfl⟩) (Foc.rgt _ _ _) hK hP hD hS hA 0 rfl rfl rfl hl.1 rfl (Nat.le_of_ble_eq_true rfl) ⟨by omega, by omega⟩ dL_law_2157 (fun H locs hP hD hS => ?_)
  refine lv_icmp_eq (tgt := 3239) hx hb dL_law_2160 (by decide) (fun _ => ?_) (fun c1 => absurd (eq_oilCost hn) c1)
  refine W.widen (k := cells + 5) (n := slots + 30) (by omega) (by omega) ?_
  have hP : va_P D vwCl ((OUT T ob fo :: WIN T v B O g ln un nx pl f0 f1 f2) ++ REF T b (yS y 3 0) w) H := hP
  have hD : va_D A ((OUT T ob fo :: WIN T v B O g ln un nx pl f0 f1 f2) ++ REF T b (yS y 3 0) w) := hD
  exact kk _ _ _ ⟨O, g, ln, un, nx, pl, f0, f1, f2, (yS y 3 0), w, fo, hP, hD, hS, (hG.thr 0), lv_sub hl [0, 1, 2, 3, 4] rfl⟩

set_option maxHeartbeats 4000000 in
set_option maxRecDepth 100000 in
theorem arm_43 (X : LCX p l s m args c D T aK aV A sc L xs) {i : Nat} (hi : i + 6 ≤ L) {H : Heap} {locs : List Loc} {ls : Array Slot} {cells slots : Nat} (hcs : cells + 5 ≤ room_1.cells ∧ slots + 30 ≤ room_1.slots) (h : LST s D T A sc v B b ob i H locs ls) (kk : ∀ (H1 : Heap) (locs1 : List Loc) (ls1 : Array Slot), LST s D T A sc v B b ob i H1 locs1 ls1 → W p l e room_1 s m args below meth c H1 locs1 (cells + 5) (slots + 30) Q (F0 m 3239 ls1 [])) : W p l e room_1 s m args below meth c H locs cells slots Q (F0 m 2165 ls []) := by
  obtain ⟨hl9, hx, hb, hml, hown, hts, hX, hsc, hscA, hA, hC, hN, hK, hL⟩ := X
  obtain ⟨O, g, ln, un, nx, pl, f0, f1, f2, y, w, fo, hP, hD, hS, hG, hl⟩ := h
  obtain ⟨N, K, C, nt, hn, h9⟩ := id hG.1
  refine lv_aload_n hx hb dL_law_2165 rfl (lv_at hl 1 rfl) ?_
  refine rdV (As := []) (rest := []) ⟨hx, hb, hml, hown, hts⟩ (c_X9_oilUsed l D T v B O g ln un nx pl f0 f1 f2) (cwV 0 hts gl_X9_oilUsed rfl rfl rfl (by decide +kernel) ⟨Nat.le_of_ble_eq_true rfl, Nat.le_of_ble_eq_true rfl⟩) hK ((Foc.mid _ _ [] _).subP hP) 0 rfl rfl rfl hl.1 rfl (Nat.le_of_ble_eq_true rfl) ⟨by omega, by omega⟩ dL_law_2166 ?_
  refine lv_aload_n hx hb dL_law_2169 rfl (lv_at hl 2 rfl) ?_
  refine wrVi (As := []) (rest := [.int ((O 0) 0 6)]) ⟨hx, hb, hml, hown, hts⟩ (c_X10_oilUsed l D T b y w _) (cwV 0 hts gl_X10_oilUsed rfl rfl rfl (by decide +kernel) ⟨Nat.le_of_ble_eq_true rfl, Nat.le_of_ble_eq_true rfl⟩) (Foc.rgt _ _ _) hK hP hD hS hA 0 rfl rfl rfl hl.1 rfl (Nat.le_of_ble_eq_true rfl) ⟨by omega, by omega⟩ dL_law_2170 (fun H locs hP hD hS => ?_)
  refine lv_icmp_eq (tgt := 3239) hx hb dL_law_2173 (by decide) (fun _ => ?_) (fun c1 => absurd (eq_oilUsed hn) c1)
  refine W.widen (k := cells + 5) (n := slots + 30) (by omega) (by omega) ?_
  have hP : va_P D vwCl ((OUT T ob fo :: WIN T v B O g ln un nx pl f0 f1 f2) ++ REF T b (yS y 3 0) w) H := hP
  have hD : va_D A ((OUT T ob fo :: WIN T v B O g ln un nx pl f0 f1 f2) ++ REF T b (yS y 3 0) w) := hD
  exact kk _ _ _ ⟨O, g, ln, un, nx, pl, f0, f1, f2, (yS y 3 0), w, fo, hP, hD, hS, (hG.thr 0), lv_sub hl [0, 1, 2, 3, 4] rfl⟩

set_option maxHeartbeats 4000000 in
set_option maxRecDepth 100000 in
theorem arm_44 (X : LCX p l s m args c D T aK aV A sc L xs) {i : Nat} (hi : i + 6 ≤ L) {H : Heap} {locs : List Loc} {ls : Array Slot} {cells slots : Nat} (hcs : cells + 5 ≤ room_1.cells ∧ slots + 30 ≤ room_1.slots) (h : LST s D T A sc v B b ob i H locs ls) (kk : ∀ (H1 : Heap) (locs1 : List Loc) (ls1 : Array Slot), LST s D T A sc v B b ob i H1 locs1 ls1 → W p l e room_1 s m args below meth c H1 locs1 (cells + 5) (slots + 30) Q (F0 m 3239 ls1 [])) : W p l e room_1 s m args below meth c H locs cells slots Q (F0 m 2178 ls []) := by
  obtain ⟨hl9, hx, hb, hml, hown, hts, hX, hsc, hscA, hA, hC, hN, hK, hL⟩ := X
  obtain ⟨O, g, ln, un, nx, pl, f0, f1, f2, y, w, fo, hP, hD, hS, hG, hl⟩ := h
  obtain ⟨N, K, C, nt, hn, h9⟩ := id hG.1
  refine lv_aload_n hx hb dL_law_2178 rfl (lv_at hl 1 rfl) ?_
  refine rdV (As := []) (rest := []) ⟨hx, hb, hml, hown, hts⟩ (c_X9_comfort l D T v B O g ln un nx pl f0 f1 f2 N K C nt hn.oi) (cwV 0 hts gl_X9_comfort rfl rfl rfl (by decide +kernel) ⟨Nat.le_of_ble_eq_true rfl, Nat.le_of_ble_eq_true rfl⟩) hK ((Foc.mid _ _ [] _).subP hP) 0 rfl rfl rfl hl.1 rfl (Nat.le_of_ble_eq_true rfl) ⟨by omega, by omega⟩ dL_law_2179 ?_
  refine lv_aload_n hx hb dL_law_2182 rfl (lv_at hl 2 rfl) ?_
  refine wrVi (As := []) (rest := [.int (sumI (fun k => decide ((O 0) 8 k = 1)) (fun k => (O 0) 6 k) N 0 0)]) ⟨hx, hb, hml, hown, hts⟩ (c_X10_comfort l D T b y w _) (cwV 0 hts gl_X10_comfort rfl rfl rfl (by decide +kernel) ⟨Nat.le_of_ble_eq_true rfl, Nat.le_of_ble_eq_true rfl⟩) (Foc.rgt _ _ _) hK hP hD hS hA 0 rfl rfl rfl hl.1 rfl (Nat.le_of_ble_eq_true rfl) ⟨by omega, by omega⟩ dL_law_2183 (fun H locs hP hD hS => ?_)
  refine lv_icmp_eq (tgt := 3239) hx hb dL_law_2186 (by decide) (fun _ => ?_) (fun c1 => absurd (eq_comfort hn) c1)
  refine W.widen (k := cells + 5) (n := slots + 30) (by omega) (by omega) ?_
  have hP : va_P D vwCl ((OUT T ob fo :: WIN T v B O g ln un nx pl f0 f1 f2) ++ REF T b (yS y 3 0) w) H := hP
  have hD : va_D A ((OUT T ob fo :: WIN T v B O g ln un nx pl f0 f1 f2) ++ REF T b (yS y 3 0) w) := hD
  exact kk _ _ _ ⟨O, g, ln, un, nx, pl, f0, f1, f2, (yS y 3 0), w, fo, hP, hD, hS, (hG.thr 0), lv_sub hl [0, 1, 2, 3, 4] rfl⟩

set_option maxHeartbeats 4000000 in
set_option maxRecDepth 100000 in
theorem arm_45 (X : LCX p l s m args c D T aK aV A sc L xs) {i : Nat} (hi : i + 6 ≤ L) {H : Heap} {locs : List Loc} {ls : Array Slot} {cells slots : Nat} (hcs : cells + 5 ≤ room_1.cells ∧ slots + 30 ≤ room_1.slots) (h : LST s D T A sc v B b ob i H locs ls) (kk : ∀ (H1 : Heap) (locs1 : List Loc) (ls1 : Array Slot), LST s D T A sc v B b ob i H1 locs1 ls1 → W p l e room_1 s m args below meth c H1 locs1 (cells + 5) (slots + 30) Q (F0 m 3239 ls1 [])) : W p l e room_1 s m args below meth c H locs cells slots Q (F0 m 2191 ls []) := by
  obtain ⟨hl9, hx, hb, hml, hown, hts, hX, hsc, hscA, hA, hC, hN, hK, hL⟩ := X
  obtain ⟨O, g, ln, un, nx, pl, f0, f1, f2, y, w, fo, hP, hD, hS, hG, hl⟩ := h
  obtain ⟨N, K, C, nt, hn, h9⟩ := id hG.1
  refine lv_aload_n hx hb dL_law_2191 rfl (lv_at hl 1 rfl) ?_
  refine wrVd (As := []) (rest := []) ⟨hx, hb, hml, hown, hts⟩ (c_X9_meanWait l D T v B O g ln un nx pl f0 f1 f2 N K C nt hn.oi _) (cwV 0 hts gl_X9_meanWait rfl rfl rfl (by decide +kernel) ⟨Nat.le_of_ble_eq_true rfl, Nat.le_of_ble_eq_true rfl⟩) (Foc.mid _ _ _ _) hK hP hD hS hA 0 rfl rfl rfl hl.1 rfl (Nat.le_of_ble_eq_true rfl) ⟨by omega, by omega⟩ dL_law_2192 (fun H locs hP hD hS => ?_)
  have nn := mean_nn (sumI (fun k => decide ((O 0) 8 k = 1)) (fun k => (O 0) 9 k - (O 0) 7 k) N 0 0) (cntC (O 0) 1 N)
  have eq9 := eq_meanWait hn
  refine lv_dstore (lv' := [(5, .double ((meanI (sumI (fun k => decide ((O 0) 8 k = 1)) (fun k => (O 0) 9 k - (O 0) 7 k) N 0 0) (cntC (O 0) 1 N)))), (0, .ref sc), (1, .ref (v 0)), (2, .ref (b 0)), (3, .ref ob), (4, .int (nI i))]) hx hb dL_law_2195 hl (by decide) rfl (fun ls hl => ?_)
  refine lv_aload_n hx hb dL_law_2197 rfl (lv_at hl 3 rfl) ?_
  refine wrVd (As := []) (rest := []) ⟨hx, hb, hml, hown, hts⟩ (c_X10_meanWait l D T b y w N K C nt hn.ri _) (cwV 0 hts gl_X10_meanWait rfl rfl rfl (by decide +kernel) ⟨Nat.le_of_ble_eq_true rfl, Nat.le_of_ble_eq_true rfl⟩) (Foc.rgt _ _ _) hK hP hD hS hA 0 rfl rfl rfl hl.1 rfl (Nat.le_of_ble_eq_true rfl) ⟨by omega, by omega⟩ dL_law_2198 (fun H locs hP hD hS => ?_)
  rw [← eq9]
  refine lv_dstore (lv' := [(7, .double ((meanI (sumI (fun k => decide ((O 0) 8 k = 1)) (fun k => (O 0) 9 k - (O 0) 7 k) N 0 0) (cntC (O 0) 1 N)))), (5, .double ((meanI (sumI (fun k => decide ((O 0) 8 k = 1)) (fun k => (O 0) 9 k - (O 0) 7 k) N 0 0) (cntC (O 0) 1 N)))), (0, .ref sc), (1, .ref (v 0)), (2, .ref (b 0)), (3, .ref ob), (4, .int (nI i))]) hx hb dL_law_2201 hl (by decide) rfl (fun ls hl => ?_)
  refine lv_dload hx hb dL_law_2203 (lv_at hl 1 rfl) ?_
  refine lv_dload hx hb dL_law_2205 (lv_at hl 0 rfl) ?_
  refine lv_dcmp hx hb dL_law_2207 ?_
  refine lv_if_eq (tgt := 2229) hx hb dL_law_2208 (by decide) (fun _ => ?_) (fun c1 => absurd (dcmp0 nn) c1)
  refine lv_goto (tgt := 3239) hx hb dL_law_2229 (by decide) ?_
  refine W.widen (k := cells + 5) (n := slots + 30) (by omega) (by omega) ?_
  have hP : va_P D vwCl ((OUT T ob fo :: WIN T v B O g ln un nx pl f0 f1 f2) ++ REF T b (yS y 3 0) w) H := hP
  have hD : va_D A ((OUT T ob fo :: WIN T v B O g ln un nx pl f0 f1 f2) ++ REF T b (yS y 3 0) w) := hD
  exact kk _ _ _ ⟨O, g, ln, un, nx, pl, f0, f1, f2, (yS y 3 0), w, fo, hP, hD, hS, (hG.thr 0), lv_sub hl [2, 3, 4, 5, 6] rfl⟩

set_option maxHeartbeats 4000000 in
set_option maxRecDepth 100000 in
theorem arm_46 (X : LCX p l s m args c D T aK aV A sc L xs) {i : Nat} (hi : i + 6 ≤ L) {H : Heap} {locs : List Loc} {ls : Array Slot} {cells slots : Nat} (hcs : cells + 5 ≤ room_1.cells ∧ slots + 30 ≤ room_1.slots) (h : LST s D T A sc v B b ob i H locs ls) (kk : ∀ (H1 : Heap) (locs1 : List Loc) (ls1 : Array Slot), LST s D T A sc v B b ob i H1 locs1 ls1 → W p l e room_1 s m args below meth c H1 locs1 (cells + 5) (slots + 30) Q (F0 m 3239 ls1 [])) : W p l e room_1 s m args below meth c H locs cells slots Q (F0 m 2232 ls []) := by
  obtain ⟨hl9, hx, hb, hml, hown, hts, hX, hsc, hscA, hA, hC, hN, hK, hL⟩ := X
  obtain ⟨O, g, ln, un, nx, pl, f0, f1, f2, y, w, fo, hP, hD, hS, hG, hl⟩ := h
  obtain ⟨N, K, C, nt, hn, h9⟩ := id hG.1
  refine lv_aload_n hx hb dL_law_2232 rfl (lv_at hl 1 rfl) ?_
  refine wrVf (As := []) (rest := []) ⟨hx, hb, hml, hown, hts⟩ (c_X9_answeredShare l D T v B O g ln un nx pl f0 f1 f2 N K C nt hn.oi _) (cwV 0 hts gl_X9_answeredShare rfl rfl rfl (by decide +kernel) ⟨Nat.le_of_ble_eq_true rfl, Nat.le_of_ble_eq_true rfl⟩) (Foc.mid _ _ _ _) hK hP hD hS hA 0 rfl rfl rfl hl.1 rfl (Nat.le_of_ble_eq_true rfl) ⟨by omega, by omega⟩ dL_law_2233 (fun H locs hP hD hS => ?_)
  have nn32 := share_nn (cntC_nat (O 0) 1 hn.N24) (doneC_nat (O 0) hn.N24)
  refine lv_f2d hx hb dL_law_2236 (f2d_ok nn32) ?_
  have nn := f2d_nn nn32
  have eq9 := eq_answeredShare hn
  refine lv_dstore (lv' := [(5, .double (FP.f2d (shareI (cntC (O 0) 1 N) (nI N - cntC (O 0) 0 N)))), (0, .ref sc), (1, .ref (v 0)), (2, .ref (b 0)), (3, .ref ob), (4, .int (nI i))]) hx hb dL_law_2237 hl (by decide) rfl (fun ls hl => ?_)
  refine lv_aload_n hx hb dL_law_2239 rfl (lv_at hl 3 rfl) ?_
  refine wrVf (As := []) (rest := []) ⟨hx, hb, hml, hown, hts⟩ (c_X10_answeredShare l D T b y w N K C nt hn.ri _) (cwV 0 hts gl_X10_answeredShare rfl rfl rfl (by decide +kernel) ⟨Nat.le_of_ble_eq_true rfl, Nat.le_of_ble_eq_true rfl⟩) (Foc.rgt _ _ _) hK hP hD hS hA 0 rfl rfl rfl hl.1 rfl (Nat.le_of_ble_eq_true rfl) ⟨by omega, by omega⟩ dL_law_2240 (fun H locs hP hD hS => ?_)
  rw [← eq9]
  refine lv_f2d hx hb dL_law_2243 (f2d_ok nn32) ?_
  refine lv_dstore (lv' := [(7, .double (FP.f2d (shareI (cntC (O 0) 1 N) (nI N - cntC (O 0) 0 N)))), (5, .double (FP.f2d (shareI (cntC (O 0) 1 N) (nI N - cntC (O 0) 0 N)))), (0, .ref sc), (1, .ref (v 0)), (2, .ref (b 0)), (3, .ref ob), (4, .int (nI i))]) hx hb dL_law_2244 hl (by decide) rfl (fun ls hl => ?_)
  refine lv_dload hx hb dL_law_2246 (lv_at hl 1 rfl) ?_
  refine lv_dload hx hb dL_law_2248 (lv_at hl 0 rfl) ?_
  refine lv_dcmp hx hb dL_law_2250 ?_
  refine lv_if_eq (tgt := 2272) hx hb dL_law_2251 (by decide) (fun _ => ?_) (fun c1 => absurd (dcmp0 nn) c1)
  refine lv_goto (tgt := 3239) hx hb dL_law_2272 (by decide) ?_
  refine W.widen (k := cells + 5) (n := slots + 30) (by omega) (by omega) ?_
  have hP : va_P D vwCl ((OUT T ob fo :: WIN T v B O g ln un nx pl f0 f1 f2) ++ REF T b (yS y 3 0) w) H := hP
  have hD : va_D A ((OUT T ob fo :: WIN T v B O g ln un nx pl f0 f1 f2) ++ REF T b (yS y 3 0) w) := hD
  exact kk _ _ _ ⟨O, g, ln, un, nx, pl, f0, f1, f2, (yS y 3 0), w, fo, hP, hD, hS, (hG.thr 0), lv_sub hl [2, 3, 4, 5, 6] rfl⟩

set_option maxHeartbeats 4000000 in
set_option maxRecDepth 100000 in
theorem arm_47 (X : LCX p l s m args c D T aK aV A sc L xs) {i : Nat} (hi : i + 6 ≤ L) {H : Heap} {locs : List Loc} {ls : Array Slot} {cells slots : Nat} (hcs : cells + 5 ≤ room_1.cells ∧ slots + 30 ≤ room_1.slots) (h : LST s D T A sc v B b ob i H locs ls) (kk : ∀ (H1 : Heap) (locs1 : List Loc) (ls1 : Array Slot), LST s D T A sc v B b ob i H1 locs1 ls1 → W p l e room_1 s m args below meth c H1 locs1 (cells + 5) (slots + 30) Q (F0 m 3239 ls1 [])) : W p l e room_1 s m args below meth c H locs cells slots Q (F0 m 2275 ls []) := by
  obtain ⟨hl9, hx, hb, hml, hown, hts, hX, hsc, hscA, hA, hC, hN, hK, hL⟩ := X
  obtain ⟨O, g, ln, un, nx, pl, f0, f1, f2, y, w, fo, hP, hD, hS, hG, hl⟩ := h
  obtain ⟨N, K, C, nt, hn, h9⟩ := id hG.1
  refine lv_aload_n hx hb dL_law_2275 rfl (lv_at hl 1 rfl) ?_
  refine wrVi (As := []) (rest := []) ⟨hx, hb, hml, hown, hts⟩ (c_X9_answersTonight l D T v B O g ln un nx pl f0 f1 f2 N K C nt hn.oi _) (cwV 0 hts gl_X9_answersTonight rfl rfl rfl (by decide +kernel) ⟨Nat.le_of_ble_eq_true rfl, Nat.le_of_ble_eq_true rfl⟩) (Foc.mid _ _ _ _) hK hP hD hS hA 0 rfl rfl rfl hl.1 rfl (Nat.le_of_ble_eq_true rfl) ⟨by omega, by omega⟩ dL_law_2276 (fun H locs hP hD hS => ?_)
  refine lv_aload_n hx hb dL_law_2279 rfl (lv_at hl 2 rfl) ?_
  refine wrVi (As := []) (rest := [.int ((nightC N K C nt (O 0)).1)]) ⟨hx, hb, hml, hown, hts⟩ (c_X10_answersTonight l D T b y w N K C nt hn.ri _) (cwV 0 hts gl_X10_answersTonight rfl rfl rfl (by decide +kernel) ⟨Nat.le_of_ble_eq_true rfl, Nat.le_of_ble_eq_true rfl⟩) (Foc.rgt _ _ _) hK hP hD hS hA 0 rfl rfl rfl hl.1 rfl (Nat.le_of_ble_eq_true rfl) ⟨by omega, by omega⟩ dL_law_2280 (fun H locs hP hD hS => ?_)
  refine lv_icmp_eq (tgt := 3239) hx hb dL_law_2283 (by decide) (fun _ => ?_) (fun c1 => absurd (eq_answersTonight hn h9) c1)
  refine W.widen (k := cells + 5) (n := slots + 30) (by omega) (by omega) ?_
  have hP : va_P D vwCl ((OUT T ob fo :: WIN T v B (va_up O 1 ((nightC N K C nt (O 0)).2)) g ln un nx pl f0 f1 f2) ++ REF T b (yS (va_up y 3 (rEnds N K C nt (lay0 y))) 3 0) w) H := hP
  have hD : va_D A ((OUT T ob fo :: WIN T v B (va_up O 1 ((nightC N K C nt (O 0)).2)) g ln un nx pl f0 f1 f2) ++ REF T b (yS (va_up y 3 (rEnds N K C nt (lay0 y))) 3 0) w) := hD
  exact kk _ _ _ ⟨(va_up O 1 ((nightC N K C nt (O 0)).2)), g, ln, un, nx, pl, f0, f1, f2, (yS (va_up y 3 (rEnds N K C nt (lay0 y))) 3 0), w, fo, hP, hD, hS, hG.spare, lv_sub hl [0, 1, 2, 3, 4] rfl⟩

end ARM
