set_option maxHeartbeats 4000000 in
set_option maxRecDepth 100000 in
theorem c_X9_checkRange (l : Launch) (hl9 : l.stackTraces = false) (D : va_G) (T : Nat → ClassId) (aK aV : Nat → Nat)  (z : Int32) (z1 : Int32) (z2 : Int32) (sz : Nat) : vx_Met l yX9_checkRange wsX9_checkRange ({ frames := 6, cells := 1, slots := 6, locals := 90 } : Room) (va_Pc [.int (z), .int (z1), .int (z2)] (PSc D T aK aV ([]) sz)) (va_Qv (fun (_ : Unit) => (chkB (rg z z1 z2) "java/lang/IllegalArgumentException") = none) (fun _ t => QS D T (va_A ([]) sz) ([]) t) (va_A ([]) sz)) (vx_X (fun (_ : Unit) => True) (fun E _ t => (chkB (rg z z1 z2) "java/lang/IllegalArgumentException") = some E ∧ QS D T (va_A ([]) sz) ([]) t) (va_A ([]) sz)) 1 6 (va_A ([]) sz) := by
  refine metXv (cc := cX9_checkRange) (maxL := 3) (by decide) rfl (Nat.le_of_ble_eq_true rfl) ?_
  intro p e s m args below meth c Qc XC free ls A hx hb hml hown hts hC hP hK hD hA hS hl htab hlocks hfr hret hthr
  have hown : s.vm.findClass RX9 = some m.cls := hown
  have hl : lv_has ls 3 [(0, .int (z)), (1, .int (z1)), (2, .int (z2))] := hl
  have w1 := hts (Cond.classLink RX9 92 "java/lang/IllegalArgumentException") (List.mem_of_getElem? (i := 1) rfl)
  have w2 := hts (Cond.initialized "java/lang/IllegalArgumentException") (List.mem_of_getElem? (i := 2) rfl)
  refine lv_iload_n hx hb dX9_checkRange_0 rfl (lv_at hl 0 rfl) ?_
  refine lv_iload_n hx hb dX9_checkRange_1 rfl (lv_at hl 1 rfl) ?_
  refine lv_icmp_lt (tgt := 10) hx hb dX9_checkRange_2 (by decide) (fun c2 => ?_) (fun c2 => ?_)
  ·
    have hq9 : rg z z1 z2 = false := by simp only [rg, Bool.and_eq_false_iff, decide_eq_false_iff_not]; exact Or.inl (Int32.not_le.mpr c2)
    exact vx_throwSW (cls := "java/lang/IllegalArgumentException") (names := supL) (text := "out of range") (sa := aK 27) hx hb hl9 hown (by decide +kernel) (by decide +kernel) w1 w2 (show vk_R RX9 340 "out of range" (aK 27) s from hC.2.1 27 (by decide)) (vx_hat (B := badW "java/lang/IllegalArgumentException") (fun w hw => hts w (List.mem_cons_of_mem _ (List.mem_append_right _ hw))) tb_96 (hC.2.2.2.2.use (by decide +kernel))) tg_96 hC.2.2.1 hC.2.2.2.1 hS (hl.1.trans hml.symm) dX9_checkRange_10 dX9_checkRange_13 dX9_checkRange_14 dX9_checkRange_17 dX9_checkRange_20 (fun x hx => (htab x hx).elim) (by decide) (Nat.le_of_ble_eq_true rfl) (Nat.le_of_ble_eq_true rfl) (Nat.le_of_ble_eq_true rfl) hlocks (fun t hv hz hk => hthr _ _ _ t (by first | exact chkB_f hq9 | exact chkB_n hq9) hP hD hS hv hz hk) (fun z hz => hfr _ (hS.2.2 z hz)) (by decide) (by decide)
  ·
    refine lv_iload_n hx hb dX9_checkRange_5 rfl (lv_at hl 0 rfl) ?_
    refine lv_iload_n hx hb dX9_checkRange_6 rfl (lv_at hl 2 rfl) ?_
    refine lv_icmp_le (tgt := 21) hx hb dX9_checkRange_7 (by decide) (fun c7 => ?_) (fun c7 => ?_)
    ·
      have hq9 : rg z z1 z2 = true := by simp only [rg, Bool.and_eq_true, decide_eq_true_eq]; exact ⟨Int32.not_lt.mp c2, c7⟩
      exact hret _ _ _ _ _ _ dX9_checkRange_21 (by first | exact chkB_f hq9 | exact chkB_n hq9) hP hD hS (by decide) (by decide)
    ·
      have hq9 : rg z z1 z2 = false := by simp only [rg, Bool.and_eq_false_iff, decide_eq_false_iff_not]; exact Or.inr c7
      exact vx_throwSW (cls := "java/lang/IllegalArgumentException") (names := supL) (text := "out of range") (sa := aK 27) hx hb hl9 hown (by decide +kernel) (by decide +kernel) w1 w2 (show vk_R RX9 340 "out of range" (aK 27) s from hC.2.1 27 (by decide)) (vx_hat (B := badW "java/lang/IllegalArgumentException") (fun w hw => hts w (List.mem_cons_of_mem _ (List.mem_append_right _ hw))) tb_96 (hC.2.2.2.2.use (by decide +kernel))) tg_96 hC.2.2.1 hC.2.2.2.1 hS (hl.1.trans hml.symm) dX9_checkRange_10 dX9_checkRange_13 dX9_checkRange_14 dX9_checkRange_17 dX9_checkRange_20 (fun x hx => (htab x hx).elim) (by decide) (Nat.le_of_ble_eq_true rfl) (Nat.le_of_ble_eq_true rfl) (Nat.le_of_ble_eq_true rfl) hlocks (fun t hv hz hk => hthr _ _ _ t (by first | exact chkB_f hq9 | exact chkB_n hq9) hP hD hS hv hz hk) (fun z hz => hfr _ (hS.2.2 z hz)) (by decide) (by decide)

set_option maxHeartbeats 4000000 in
set_option maxRecDepth 100000 in
theorem c_X9_checkNight (l : Launch) (hl9 : l.stackTraces = false) (D : va_G) (T : Nat → ClassId) (aK aV : Nat → Nat)  (z : Int32) (sz : Nat) : vx_Met l yX9_checkNight wsX9_checkNight ({ frames := 7, cells := 1, slots := 6, locals := 112 } : Room) (va_Pc [.int (z)] (PSc D T aK aV ([]) sz)) (va_Qv (fun (_ : Unit) => (chkB (rg z 0 2000) "java/lang/IllegalArgumentException") = none) (fun _ t => QS D T (va_A ([]) sz) ([]) t) (va_A ([]) sz)) (vx_X (fun (_ : Unit) => True) (fun E _ t => (chkB (rg z 0 2000) "java/lang/IllegalArgumentException") = some E ∧ QS D T (va_A ([]) sz) ([]) t) (va_A ([]) sz)) 1 6 (va_A ([]) sz) := by
  refine metXv (cc := cX9_checkNight) (maxL := 1) (by decide) rfl (Nat.le_of_ble_eq_true rfl) ?_
  intro p e s m args below meth c Qc XC free ls A hx hb hml hown hts hC hP hK hD hA hS hl htab hlocks hfr hret hthr
  have hown : s.vm.findClass RX9 = some m.cls := hown
  have hl : lv_has ls 1 [(0, .int (z))] := hl
  refine lv_iload_n hx hb dX9_checkNight_0 rfl (lv_at hl 0 rfl) ?_
  refine lv_iconst (v := 0) hx hb dX9_checkNight_1 (by decide) ?_
  refine lv_sipush (v := 2000) hx hb dX9_checkNight_2 (by decide) ?_
  refine wxSv (As := [.int (z), .int (0), .int (2000)]) (rest := []) ⟨hx, hb, hml, hown, hts⟩ (c_X9_checkRange l hl9 D T aK aV z 0 2000 _) (va_cwS 3 hts gX9_checkNight_X9_checkRange rfl rfl rfl (by decide +kernel) ⟨Nat.le_of_ble_eq_true rfl, Nat.le_of_ble_eq_true rfl⟩) (Foc.rfl _ _) (Foc.rfl _ _) hC hK hP hD hS hA rfl hl.1 rfl (Nat.le_of_ble_eq_true rfl) ⟨Nat.le_of_ble_eq_true rfl, Nat.le_of_ble_eq_true rfl⟩ dX9_checkNight_5 (fun E ce q9 H1 locs1 hE hP1 hD1 hS1 hce hcv hcl => vx_out (fun x hx => (htab x hx).elim) hlocks hce hcv hcl (fun t ht hv => hthr H1 locs1 E t (by first | exact hE | (simp only [orE, true_and, hE]; done) | (simp [orE, true_and, hE]; done)) hP1 hD1 hS1 hv (by rw [ht]; exact Nat.le_refl _) (fun q _ => by rw [ht])) (fun z hz => hfr _ (hS1.2.2 z hz)) (by decide) (by decide)) (fun H locs x5 hP hD hS => ?_)
  have hP : va_P D vwCl ([]) H := hP
  have hD : va_D A ([]) := hD
  exact hret _ _ _ _ _ _ dX9_checkNight_8 (by first | rfl | (simp only [orE, x5]; done) | (simp only [orE, x5] <;> simp [chkB, x5]; done) | (simp [orE, chkB, x5]; done) | ((first | have x5x := Int32.not_lt.mp x5 | have x5x := Int32.not_le.mp x5 | have x5x := Int32.not_lt.mpr x5 | have x5x := Int32.not_le.mpr x5 | have x5x := x5); simp [orE, chkB, x5, x5x]; done)) hP hD hS (by decide) (by decide)

set_option maxHeartbeats 4000000 in
set_option maxRecDepth 100000 in
theorem c_X9_checkSort (l : Launch) (hl9 : l.stackTraces = false) (D : va_G) (T : Nat → ClassId) (aK aV : Nat → Nat)  (z : Int32) (sz : Nat) : vx_Met l yX9_checkSort wsX9_checkSort ({ frames := 7, cells := 1, slots := 6, locals := 112 } : Room) (va_Pc [.int (z)] (PSc D T aK aV ([]) sz)) (va_Qv (fun (_ : Unit) => (chkB (rg z 0 3) "java/lang/IllegalArgumentException") = none) (fun _ t => QS D T (va_A ([]) sz) ([]) t) (va_A ([]) sz)) (vx_X (fun (_ : Unit) => True) (fun E _ t => (chkB (rg z 0 3) "java/lang/IllegalArgumentException") = some E ∧ QS D T (va_A ([]) sz) ([]) t) (va_A ([]) sz)) 1 6 (va_A ([]) sz) := by
  refine metXv (cc := cX9_checkSort) (maxL := 1) (by decide) rfl (Nat.le_of_ble_eq_true rfl) ?_
  intro p e s m args below meth c Qc XC free ls A hx hb hml hown hts hC hP hK hD hA hS hl htab hlocks hfr hret hthr
  have hown : s.vm.findClass RX9 = some m.cls := hown
  have hl : lv_has ls 1 [(0, .int (z))] := hl
  refine lv_iload_n hx hb dX9_checkSort_0 rfl (lv_at hl 0 rfl) ?_
  refine lv_iconst (v := 0) hx hb dX9_checkSort_1 (by decide) ?_
  refine lv_iconst (v := 3) hx hb dX9_checkSort_2 (by decide) ?_
  refine wxSv (As := [.int (z), .int (0), .int (3)]) (rest := []) ⟨hx, hb, hml, hown, hts⟩ (c_X9_checkRange l hl9 D T aK aV z 0 3 _) (va_cwS 3 hts gX9_checkSort_X9_checkRange rfl rfl rfl (by decide +kernel) ⟨Nat.le_of_ble_eq_true rfl, Nat.le_of_ble_eq_true rfl⟩) (Foc.rfl _ _) (Foc.rfl _ _) hC hK hP hD hS hA rfl hl.1 rfl (Nat.le_of_ble_eq_true rfl) ⟨Nat.le_of_ble_eq_true rfl, Nat.le_of_ble_eq_true rfl⟩ dX9_checkSort_3 (fun E ce q9 H1 locs1 hE hP1 hD1 hS1 hce hcv hcl => vx_out (fun x hx => (htab x hx).elim) hlocks hce hcv hcl (fun t ht hv => hthr H1 locs1 E t (by first | exact hE | (simp only [orE, true_and, hE]; done) | (simp [orE, true_and, hE]; done)) hP1 hD1 hS1 hv (by rw [ht]; exact Nat.le_refl _) (fun q _ => by rw [ht])) (fun z hz => hfr _ (hS1.2.2 z hz)) (by decide) (by decide)) (fun H locs x3 hP hD hS => ?_)
  have hP : va_P D vwCl ([]) H := hP
  have hD : va_D A ([]) := hD
  exact hret _ _ _ _ _ _ dX9_checkSort_6 (by first | rfl | (simp only [orE, x3]; done) | (simp only [orE, x3] <;> simp [chkB, x3]; done) | (simp [orE, chkB, x3]; done) | ((first | have x3x := Int32.not_lt.mp x3 | have x3x := Int32.not_le.mp x3 | have x3x := Int32.not_lt.mpr x3 | have x3x := Int32.not_le.mpr x3 | have x3x := x3); simp [orE, chkB, x3, x3x]; done)) hP hD hS (by decide) (by decide)

set_option maxHeartbeats 4000000 in
set_option maxRecDepth 100000 in
theorem c_X9_checkSlot (l : Launch) (hl9 : l.stackTraces = false) (D : va_G) (T : Nat → ClassId) (aK aV : Nat → Nat)  (z : Int32) (sz : Nat) : vx_Met l yX9_checkSlot wsX9_checkSlot ({ frames := 6, cells := 1, slots := 6, locals := 90 } : Room) (va_Pc [.int (z)] (PSc D T aK aV ([]) sz)) (va_Qv (fun (_ : Unit) => (chkB (inN z 2) "java/lang/IndexOutOfBoundsException") = none) (fun _ t => QS D T (va_A ([]) sz) ([]) t) (va_A ([]) sz)) (vx_X (fun (_ : Unit) => True) (fun E _ t => (chkB (inN z 2) "java/lang/IndexOutOfBoundsException") = some E ∧ QS D T (va_A ([]) sz) ([]) t) (va_A ([]) sz)) 1 6 (va_A ([]) sz) := by
  refine metXv (cc := cX9_checkSlot) (maxL := 1) (by decide) rfl (Nat.le_of_ble_eq_true rfl) ?_
  intro p e s m args below meth c Qc XC free ls A hx hb hml hown hts hC hP hK hD hA hS hl htab hlocks hfr hret hthr
  have hown : s.vm.findClass RX9 = some m.cls := hown
  have hl : lv_has ls 1 [(0, .int (z))] := hl
  have w1 := hts (Cond.classLink RX9 297 "java/lang/IndexOutOfBoundsException") (List.mem_of_getElem? (i := 1) rfl)
  have w2 := hts (Cond.initialized "java/lang/IndexOutOfBoundsException") (List.mem_of_getElem? (i := 2) rfl)
  refine lv_iload_n hx hb dX9_checkSlot_0 rfl (lv_at hl 0 rfl) ?_
  refine lv_if_lt (tgt := 9) hx hb dX9_checkSlot_1 (by decide) (fun c1 => ?_) (fun c1 => ?_)
  ·
    have hq9 : inN z 2 = false := by simp only [inN, Bool.and_eq_false_iff, decide_eq_false_iff_not]; exact Or.inl (Int32.not_le.mpr c1)
    exact vx_throwSW (cls := "java/lang/IndexOutOfBoundsException") (names := supL) (text := "no such slot") (sa := aK 28) hx hb hl9 hown (by decide +kernel) (by decide +kernel) w1 w2 (show vk_R RX9 342 "no such slot" (aK 28) s from hC.2.1 28 (by decide)) (vx_hat (B := badW "java/lang/IndexOutOfBoundsException") (fun w hw => hts w (List.mem_cons_of_mem _ (List.mem_append_right _ hw))) tb_301 (hC.2.2.2.2.use (by decide +kernel))) tg_301 hC.2.2.1 hC.2.2.2.1 hS (hl.1.trans hml.symm) dX9_checkSlot_9 dX9_checkSlot_12 dX9_checkSlot_13 dX9_checkSlot_16 dX9_checkSlot_19 (fun x hx => (htab x hx).elim) (by decide) (Nat.le_of_ble_eq_true rfl) (Nat.le_of_ble_eq_true rfl) (Nat.le_of_ble_eq_true rfl) hlocks (fun t hv hz hk => hthr _ _ _ t (by first | exact chkB_f hq9 | exact chkB_n hq9) hP hD hS hv hz hk) (fun z hz => hfr _ (hS.2.2 z hz)) (by decide) (by decide)
  ·
    refine lv_iload_n hx hb dX9_checkSlot_4 rfl (lv_at hl 0 rfl) ?_
    refine lv_iconst (v := 2) hx hb dX9_checkSlot_5 (by decide) ?_
    refine lv_icmp_lt (tgt := 20) hx hb dX9_checkSlot_6 (by decide) (fun c6 => ?_) (fun c6 => ?_)
    ·
      have hq9 : inN z 2 = true := by simp only [inN, Bool.and_eq_true, decide_eq_true_eq]; exact ⟨Int32.not_lt.mp c1, c6⟩
      exact hret _ _ _ _ _ _ dX9_checkSlot_20 (by first | exact chkB_f hq9 | exact chkB_n hq9) hP hD hS (by decide) (by decide)
    ·
      have hq9 : inN z 2 = false := by simp only [inN, Bool.and_eq_false_iff, decide_eq_false_iff_not]; exact Or.inr c6
      exact vx_throwSW (cls := "java/lang/IndexOutOfBoundsException") (names := supL) (text := "no such slot") (sa := aK 28) hx hb hl9 hown (by decide +kernel) (by decide +kernel) w1 w2 (show vk_R RX9 342 "no such slot" (aK 28) s from hC.2.1 28 (by decide)) (vx_hat (B := badW "java/lang/IndexOutOfBoundsException") (fun w hw => hts w (List.mem_cons_of_mem _ (List.mem_append_right _ hw))) tb_301 (hC.2.2.2.2.use (by decide +kernel))) tg_301 hC.2.2.1 hC.2.2.2.1 hS (hl.1.trans hml.symm) dX9_checkSlot_9 dX9_checkSlot_12 dX9_checkSlot_13 dX9_checkSlot_16 dX9_checkSlot_19 (fun x hx => (htab x hx).elim) (by decide) (Nat.le_of_ble_eq_true rfl) (Nat.le_of_ble_eq_true rfl) (Nat.le_of_ble_eq_true rfl) hlocks (fun t hv hz hk => hthr _ _ _ t (by first | exact chkB_f hq9 | exact chkB_n hq9) hP hD hS hv hz hk) (fun z hz => hfr _ (hS.2.2 z hz)) (by decide) (by decide)

set_option maxHeartbeats 4000000 in
set_option maxRecDepth 100000 in
theorem c_X9_checkComplaint (l : Launch) (hl9 : l.stackTraces = false) (D : va_G) (T : Nat → ClassId) (aK aV : Nat → Nat) (v : Nat → Nat) (B : Nat → Nat → Nat) (O : Nat → Nat → Nat → Int32) (g : CSt) (ln un nx pl : Nat) (f0 f1 f2 : Nat → Int32) (z : Int32) (N : Nat) (K : Nat) (C : Nat) (nt : Nat) (hOI : OI (O 0) N K C nt) (sz : Nat) : vx_Met l yX9_checkComplaint wsX9_checkComplaint ({ frames := 6, cells := 1, slots := 6, locals := 90 } : Room) (va_Pc [.ref (v 0), .int (z)] (PSc D T aK aV (WIN T v B O g ln un nx pl f0 f1 f2) sz)) (va_Qv (fun (_ : Unit) => (chkB (inN z N) "java/lang/IndexOutOfBoundsException") = none) (fun _ t => QS D T (va_A (WIN T v B O g ln un nx pl f0 f1 f2) sz) (WIN T v B O g ln un nx pl f0 f1 f2) t) (va_A (WIN T v B O g ln un nx pl f0 f1 f2) sz)) (vx_X (fun (_ : Unit) => True) (fun E _ t => (chkB (inN z N) "java/lang/IndexOutOfBoundsException") = some E ∧ QS D T (va_A (WIN T v B O g ln un nx pl f0 f1 f2) sz) (WIN T v B O g ln un nx pl f0 f1 f2) t) (va_A (WIN T v B O g ln un nx pl f0 f1 f2) sz)) 1 6 (va_A (WIN T v B O g ln un nx pl f0 f1 f2) sz) := by
  refine metXv (cc := cX9_checkComplaint) (maxL := 2) (by decide) rfl (Nat.le_of_ble_eq_true rfl) ?_
  intro p e s m args below meth c Qc XC free ls A hx hb hml hown hts hC hP hK hD hA hS hl htab hlocks hfr hret hthr
  have hown : s.vm.findClass RX9 = some m.cls := hown
  have hl : lv_has ls 2 [(0, .ref (v 0)), (1, .int (z))] := hl
  have i3 : ∀ w ∈ wsX30, w ∈ wsX9_checkComplaint := by decide +kernel
  have i9 : ∀ w ∈ wsX90, w ∈ wsX9_checkComplaint := by decide +kernel
  have w1 := hts (Cond.classLink RX9 297 "java/lang/IndexOutOfBoundsException") (List.mem_of_getElem? (i := 1) rfl)
  have w2 := hts (Cond.initialized "java/lang/IndexOutOfBoundsException") (List.mem_of_getElem? (i := 2) rfl)
  have w3 := hts (Cond.fieldLink RX9 19 "MoonComplaintWindow" "office" "LMoonComplaintWindow$Office;") (List.mem_of_getElem? (i := 3) rfl)
  have w4 := hts (Cond.fieldLink RX9 107 "MoonComplaintWindow$Office" "pile" "LMoonComplaintWindow$Pile;") (List.mem_of_getElem? (i := 4) rfl)
  obtain ⟨hN, hN2, hKn, hK2, hCn, hC1, hC2, hn, hnt, hSK⟩ := id hOI
  refine lv_aload_n hx hb dX9_checkComplaint_0 rfl (lv_at hl 0 rfl) ?_
  refine va_get (D := D) (ci := 9) (v := .ref ((B 0) 0)) (C := RX9) (T := TX9) (N := 6) hx hb hts i9 hown hK hP 0 rfl rfl 1 (by decide) w3 (fun _ h9 => h9) rfl dX9_checkComplaint_1 ?_
  refine va_get (D := D) (ci := 3) (v := .ref ((B 0) 6)) (C := RX3) (T := TX3) (N := 4) hx hb hts i3 hown hK hP (14 * 0 + 0 + 11) (WIN_get (by decide) (by decide) rfl) rfl 3 (by decide) w4 (fun _ h9 => h9) rfl dX9_checkComplaint_4 ?_
  refine lv_iload_n hx hb dX9_checkComplaint_7 rfl (lv_at hl 1 rfl) ?_
  refine rdV (As := [.int (z)]) (rest := []) ⟨hx, hb, hml, hown, hts⟩ (c_X5_has l D T (B 0) (O 0) z ) (cwV 1 hts gX9_checkComplaint_X5_has rfl rfl rfl (by decide +kernel) ⟨Nat.le_of_ble_eq_true rfl, Nat.le_of_ble_eq_true rfl⟩) hK ((WIN_off (j := 0) (by decide) (O 0)).subP hP) 6 rfl rfl rfl hl.1 rfl (Nat.le_of_ble_eq_true rfl) ⟨Nat.zero_le _, Nat.zero_le _⟩ dX9_checkComplaint_8 ?_
  refine lv_if_ne (tgt := 25) hx hb dX9_checkComplaint_11 (by decide) (fun c11 => ?_) (fun c11 => ?_)
  ·
    have c11 := bI_n0.mp c11
    have hq9 : inN z N = true := by have h9 := c11; rw [hN] at h9; exact h9
    exact hret _ _ _ _ _ _ dX9_checkComplaint_25 (by first | exact chkB_f hq9 | exact chkB_n hq9) hP hD hS (by decide) (by decide)
  ·
    have c11 := bI_0.mp c11
    have hq9 : inN z N = false := by have h9 := c11; rw [hN] at h9; exact h9
    exact vx_throwSW (cls := "java/lang/IndexOutOfBoundsException") (names := supL) (text := "no such complaint") (sa := aK 29) hx hb hl9 hown (by decide +kernel) (by decide +kernel) w1 w2 (show vk_R RX9 347 "no such complaint" (aK 29) s from hC.2.1 29 (by decide)) (vx_hat (B := badW "java/lang/IndexOutOfBoundsException") (fun w hw => hts w (List.mem_cons_of_mem _ (List.mem_append_right _ hw))) tb_301 (hC.2.2.2.2.use (by decide +kernel))) tg_301 hC.2.2.1 hC.2.2.2.1 hS (hl.1.trans hml.symm) dX9_checkComplaint_14 dX9_checkComplaint_17 dX9_checkComplaint_18 dX9_checkComplaint_21 dX9_checkComplaint_24 (fun x hx => (htab x hx).elim) (by decide) (Nat.le_of_ble_eq_true rfl) (Nat.le_of_ble_eq_true rfl) (Nat.le_of_ble_eq_true rfl) hlocks (fun t hv hz hk => hthr _ _ _ t (by first | exact chkB_f hq9 | exact chkB_n hq9) hP hD hS hv hz hk) (fun z hz => hfr _ (hS.2.2 z hz)) (by decide) (by decide)

set_option maxHeartbeats 4000000 in
set_option maxRecDepth 100000 in
theorem c_X9_checkClerk (l : Launch) (hl9 : l.stackTraces = false) (D : va_G) (T : Nat → ClassId) (aK aV : Nat → Nat) (v : Nat → Nat) (B : Nat → Nat → Nat) (O : Nat → Nat → Nat → Int32) (g : CSt) (ln un nx pl : Nat) (f0 f1 f2 : Nat → Int32) (z : Int32) (N : Nat) (K : Nat) (C : Nat) (nt : Nat) (hOI : OI (O 0) N K C nt) (sz : Nat) : vx_Met l yX9_checkClerk wsX9_checkClerk ({ frames := 6, cells := 1, slots := 6, locals := 90 } : Room) (va_Pc [.ref (v 0), .int (z)] (PSc D T aK aV (WIN T v B O g ln un nx pl f0 f1 f2) sz)) (va_Qv (fun (_ : Unit) => (chkB (inN z K) "java/lang/IndexOutOfBoundsException") = none) (fun _ t => QS D T (va_A (WIN T v B O g ln un nx pl f0 f1 f2) sz) (WIN T v B O g ln un nx pl f0 f1 f2) t) (va_A (WIN T v B O g ln un nx pl f0 f1 f2) sz)) (vx_X (fun (_ : Unit) => True) (fun E _ t => (chkB (inN z K) "java/lang/IndexOutOfBoundsException") = some E ∧ QS D T (va_A (WIN T v B O g ln un nx pl f0 f1 f2) sz) (WIN T v B O g ln un nx pl f0 f1 f2) t) (va_A (WIN T v B O g ln un nx pl f0 f1 f2) sz)) 1 6 (va_A (WIN T v B O g ln un nx pl f0 f1 f2) sz) := by
  refine metXv (cc := cX9_checkClerk) (maxL := 2) (by decide) rfl (Nat.le_of_ble_eq_true rfl) ?_
  intro p e s m args below meth c Qc XC free ls A hx hb hml hown hts hC hP hK hD hA hS hl htab hlocks hfr hret hthr
  have hown : s.vm.findClass RX9 = some m.cls := hown
  have hl : lv_has ls 2 [(0, .ref (v 0)), (1, .int (z))] := hl
  have i3 : ∀ w ∈ wsX30, w ∈ wsX9_checkClerk := by decide +kernel
  have i9 : ∀ w ∈ wsX90, w ∈ wsX9_checkClerk := by decide +kernel
  have w1 := hts (Cond.classLink RX9 297 "java/lang/IndexOutOfBoundsException") (List.mem_of_getElem? (i := 1) rfl)
  have w2 := hts (Cond.initialized "java/lang/IndexOutOfBoundsException") (List.mem_of_getElem? (i := 2) rfl)
  have w3 := hts (Cond.fieldLink RX9 19 "MoonComplaintWindow" "office" "LMoonComplaintWindow$Office;") (List.mem_of_getElem? (i := 3) rfl)
  have w4 := hts (Cond.fieldLink RX9 224 "MoonComplaintWindow$Office" "staff" "LMoonComplaintWindow$Staff;") (List.mem_of_getElem? (i := 4) rfl)
  obtain ⟨hN, hN2, hKn, hK2, hCn, hC1, hC2, hn, hnt, hSK⟩ := id hOI
  refine lv_aload_n hx hb dX9_checkClerk_0 rfl (lv_at hl 0 rfl) ?_
  refine va_get (D := D) (ci := 9) (v := .ref ((B 0) 0)) (C := RX9) (T := TX9) (N := 6) hx hb hts i9 hown hK hP 0 rfl rfl 1 (by decide) w3 (fun _ h9 => h9) rfl dX9_checkClerk_1 ?_
  refine va_get (D := D) (ci := 3) (v := .ref ((B 0) 3)) (C := RX3) (T := TX3) (N := 4) hx hb hts i3 hown hK hP (14 * 0 + 0 + 11) (WIN_get (by decide) (by decide) rfl) rfl 2 (by decide) w4 (fun _ h9 => h9) rfl dX9_checkClerk_4 ?_
  refine lv_iload_n hx hb dX9_checkClerk_7 rfl (lv_at hl 1 rfl) ?_
  refine rdV (As := [.int (z)]) (rest := []) ⟨hx, hb, hml, hown, hts⟩ (c_X8_has l D T (B 0) (O 0) z ) (cwV 1 hts gX9_checkClerk_X8_has rfl rfl rfl (by decide +kernel) ⟨Nat.le_of_ble_eq_true rfl, Nat.le_of_ble_eq_true rfl⟩) hK ((WIN_off (j := 0) (by decide) (O 0)).subP hP) 3 rfl rfl rfl hl.1 rfl (Nat.le_of_ble_eq_true rfl) ⟨Nat.zero_le _, Nat.zero_le _⟩ dX9_checkClerk_8 ?_
  refine lv_if_ne (tgt := 25) hx hb dX9_checkClerk_11 (by decide) (fun c11 => ?_) (fun c11 => ?_)
  ·
    have c11 := bI_n0.mp c11
    have hq9 : inN z K = true := by have h9 := c11; rw [hKn] at h9; exact h9
    exact hret _ _ _ _ _ _ dX9_checkClerk_25 (by first | exact chkB_f hq9 | exact chkB_n hq9) hP hD hS (by decide) (by decide)
  ·
    have c11 := bI_0.mp c11
    have hq9 : inN z K = false := by have h9 := c11; rw [hKn] at h9; exact h9
    exact vx_throwSW (cls := "java/lang/IndexOutOfBoundsException") (names := supL) (text := "no such clerk") (sa := aK 30) hx hb hl9 hown (by decide +kernel) (by decide +kernel) w1 w2 (show vk_R RX9 350 "no such clerk" (aK 30) s from hC.2.1 30 (by decide)) (vx_hat (B := badW "java/lang/IndexOutOfBoundsException") (fun w hw => hts w (List.mem_cons_of_mem _ (List.mem_append_right _ hw))) tb_301 (hC.2.2.2.2.use (by decide +kernel))) tg_301 hC.2.2.1 hC.2.2.2.1 hS (hl.1.trans hml.symm) dX9_checkClerk_14 dX9_checkClerk_17 dX9_checkClerk_18 dX9_checkClerk_21 dX9_checkClerk_24 (fun x hx => (htab x hx).elim) (by decide) (Nat.le_of_ble_eq_true rfl) (Nat.le_of_ble_eq_true rfl) (Nat.le_of_ble_eq_true rfl) hlocks (fun t hv hz hk => hthr _ _ _ t (by first | exact chkB_f hq9 | exact chkB_n hq9) hP hD hS hv hz hk) (fun z hz => hfr _ (hS.2.2 z hz)) (by decide) (by decide)

set_option maxHeartbeats 4000000 in
set_option maxRecDepth 100000 in
theorem c_X9_checkWaiting (l : Launch) (hl9 : l.stackTraces = false) (D : va_G) (T : Nat → ClassId) (aK aV : Nat → Nat) (v : Nat → Nat) (B : Nat → Nat → Nat) (O : Nat → Nat → Nat → Int32) (g : CSt) (ln un nx pl : Nat) (f0 f1 f2 : Nat → Int32) (k : Nat) (hk : k < 24) (sz : Nat) : vx_Met l yX9_checkWaiting wsX9_checkWaiting ({ frames := 6, cells := 1, slots := 6, locals := 90 } : Room) (va_Pc [.ref (v 0), .int (nI k)] (PSc D T aK aV (WIN T v B O g ln un nx pl f0 f1 f2) sz)) (va_Qv (fun (_ : Unit) => (chkB (decide ((O 0) 8 k = 0)) "java/lang/IllegalStateException") = none) (fun _ t => QS D T (va_A (WIN T v B O g ln un nx pl f0 f1 f2) sz) (WIN T v B O g ln un nx pl f0 f1 f2) t) (va_A (WIN T v B O g ln un nx pl f0 f1 f2) sz)) (vx_X (fun (_ : Unit) => True) (fun E _ t => (chkB (decide ((O 0) 8 k = 0)) "java/lang/IllegalStateException") = some E ∧ QS D T (va_A (WIN T v B O g ln un nx pl f0 f1 f2) sz) (WIN T v B O g ln un nx pl f0 f1 f2) t) (va_A (WIN T v B O g ln un nx pl f0 f1 f2) sz)) 1 6 (va_A (WIN T v B O g ln un nx pl f0 f1 f2) sz) := by
  refine metXv (cc := cX9_checkWaiting) (maxL := 2) (by decide) rfl (Nat.le_of_ble_eq_true rfl) ?_
  intro p e s m args below meth c Qc XC free ls A hx hb hml hown hts hC hP hK hD hA hS hl htab hlocks hfr hret hthr
  have hown : s.vm.findClass RX9 = some m.cls := hown
  have hl : lv_has ls 2 [(0, .ref (v 0)), (1, .int (nI k))] := hl
  have i3 : ∀ w ∈ wsX30, w ∈ wsX9_checkWaiting := by decide +kernel
  have i5 : ∀ w ∈ wsX50, w ∈ wsX9_checkWaiting := by decide +kernel
  have i9 : ∀ w ∈ wsX90, w ∈ wsX9_checkWaiting := by decide +kernel
  have w1 := hts (Cond.classLink RX9 82 "java/lang/IllegalStateException") (List.mem_of_getElem? (i := 1) rfl)
  have w2 := hts (Cond.initialized "java/lang/IllegalStateException") (List.mem_of_getElem? (i := 2) rfl)
  have w3 := hts (Cond.fieldLink RX9 19 "MoonComplaintWindow" "office" "LMoonComplaintWindow$Office;") (List.mem_of_getElem? (i := 3) rfl)
  have w4 := hts (Cond.fieldLink RX9 107 "MoonComplaintWindow$Office" "pile" "LMoonComplaintWindow$Pile;") (List.mem_of_getElem? (i := 4) rfl)
  have w5 := hts (Cond.fieldLink RX9 188 "MoonComplaintWindow$Pile" "states" "[I") (List.mem_of_getElem? (i := 5) rfl)
  refine lv_aload_n hx hb dX9_checkWaiting_0 rfl (lv_at hl 0 rfl) ?_
  refine va_get (D := D) (ci := 9) (v := .ref ((B 0) 0)) (C := RX9) (T := TX9) (N := 6) hx hb hts i9 hown hK hP 0 rfl rfl 1 (by decide) w3 (fun _ h9 => h9) rfl dX9_checkWaiting_1 ?_
  refine va_get (D := D) (ci := 3) (v := .ref ((B 0) 6)) (C := RX3) (T := TX3) (N := 4) hx hb hts i3 hown hK hP (14 * 0 + 0 + 11) (WIN_get (by decide) (by decide) rfl) rfl 3 (by decide) w4 (fun _ h9 => h9) rfl dX9_checkWaiting_4 ?_
  refine va_get (D := D) (ci := 5) (v := .ref ((B 0) 11)) (C := RX5) (T := TX5) (N := 8) hx hb hts i5 hown hK hP (14 * 0 + 6 + 11) (WIN_get (by decide) (by decide) rfl) rfl 5 (by decide) w5 (fun _ h9 => h9) rfl dX9_checkWaiting_7 ?_
  refine lv_iload_n hx hb dX9_checkWaiting_10 rfl (lv_at hl 1 rfl) ?_
  refine aldI hx hb hK hP (14 * 0 + 11 + 11) 0 (WIN_get (by decide) (by decide) rfl) rfl (k) rfl (by omega) (by decide) dX9_checkWaiting_11 ?_
  refine endI (r := ((O 0) 8) k) rfl ?_
  refine lv_if_eq (tgt := 26) hx hb dX9_checkWaiting_12 (by decide) (fun c12 => ?_) (fun c12 => ?_)
  ·
    exact hret _ _ _ _ _ _ dX9_checkWaiting_26 (by first | rfl | (simp only [orE, c12]; done) | (simp only [orE, c12] <;> simp [chkB, c12]; done) | (simp [orE, chkB, c12]; done) | ((first | have c12x := Int32.not_lt.mp c12 | have c12x := Int32.not_le.mp c12 | have c12x := Int32.not_lt.mpr c12 | have c12x := Int32.not_le.mpr c12 | have c12x := c12); simp [orE, chkB, c12, c12x]; done)) hP hD hS (by decide) (by decide)
  ·
    exact vx_throwSW (cls := "java/lang/IllegalStateException") (names := supL) (text := "the complaint is not waiting") (sa := aK 31) hx hb hl9 hown (by decide +kernel) (by decide +kernel) w1 w2 (show vk_R RX9 352 "the complaint is not waiting" (aK 31) s from hC.2.1 31 (by decide)) (vx_hat (B := badW "java/lang/IllegalStateException") (fun w hw => hts w (List.mem_cons_of_mem _ (List.mem_append_right _ hw))) tb_86 (hC.2.2.2.2.use (by decide +kernel))) tg_86 hC.2.2.1 hC.2.2.2.1 hS (hl.1.trans hml.symm) dX9_checkWaiting_15 dX9_checkWaiting_18 dX9_checkWaiting_19 dX9_checkWaiting_22 dX9_checkWaiting_25 (fun x hx => (htab x hx).elim) (by decide) (Nat.le_of_ble_eq_true rfl) (Nat.le_of_ble_eq_true rfl) (Nat.le_of_ble_eq_true rfl) hlocks (fun t hv hz hk => hthr _ _ _ t (by first | rfl | (simp only [orE, c12]; done) | (simp only [orE, c12] <;> simp [chkB, c12]; done) | (simp [orE, chkB, c12]; done) | ((first | have c12x := Int32.not_lt.mp c12 | have c12x := Int32.not_le.mp c12 | have c12x := Int32.not_lt.mpr c12 | have c12x := Int32.not_le.mpr c12 | have c12x := c12); simp [orE, chkB, c12, c12x]; done)) hP hD hS hv hz hk) (fun z hz => hfr _ (hS.2.2 z hz)) (by decide) (by decide)

set_option maxHeartbeats 4000000 in
set_option maxRecDepth 100000 in
theorem c_X9_night (l : Launch) (D : va_G) (T : Nat → ClassId) (v : Nat → Nat) (B : Nat → Nat → Nat) (O : Nat → Nat → Nat → Int32) (g : CSt) (ln un nx pl : Nat) (f0 f1 f2 : Nat → Int32) : Met l yX9_night wsX9_night ({ frames := 0, cells := 0, slots := 0, locals := 0 } : Room) (va_Pc [.ref (v 0)] (PR D T (WIN T v B O g ln un nx pl f0 f1 f2))) (QcRead ((O 0) 0 0)) 0 0 (fun _ => False) := by
  refine metR (cc := cX9_night) (maxL := 1) (ty := .int) (by decide) rfl (by rfl) (Nat.le_of_ble_eq_true rfl) ?_
  intro p e s m args below meth c Q ls hx hb hml hown hts hP hK hl hret
  have hown : s.vm.findClass RX9 = some m.cls := hown
  have hl : lv_has ls 1 [(0, .ref (v 0))] := hl
  have i3 : ∀ w ∈ wsX30, w ∈ wsX9_night := by decide +kernel
  have i9 : ∀ w ∈ wsX90, w ∈ wsX9_night := by decide +kernel
  have w1 := hts (Cond.fieldLink RX9 19 "MoonComplaintWindow" "office" "LMoonComplaintWindow$Office;") (List.mem_of_getElem? (i := 1) rfl)
  have w2 := hts (Cond.fieldLink RX9 124 "MoonComplaintWindow$Office" "night" "I") (List.mem_of_getElem? (i := 2) rfl)
  refine lv_aload_n hx hb dX9_night_0 rfl (lv_at hl 0 rfl) ?_
  refine va_get (D := D) (ci := 9) (v := .ref ((B 0) 0)) (C := RX9) (T := TX9) (N := 6) hx hb hts i9 hown hK hP 0 rfl rfl 1 (by decide) w1 (fun _ h9 => h9) rfl dX9_night_1 ?_
  refine va_get (D := D) (ci := 3) (v := .int ((O 0) 0 0)) (C := RX3) (T := TX3) (N := 4) hx hb hts i3 hown hK hP (14 * 0 + 0 + 11) (WIN_get (by decide) (by decide) rfl) rfl 0 (by decide) w2 (fun _ h9 => h9) rfl dX9_night_4 ?_
  refine endI (r := (O 0) 0 0) (by first | rfl | (simp [bI, true_and]; done) | (skip; simp [bI, true_and]; done)) ?_
  exact hret ls _ dX9_night_7

set_option maxHeartbeats 4000000 in
set_option maxRecDepth 100000 in
theorem c_X9_glareLimit (l : Launch) (D : va_G) (T : Nat → ClassId) (v : Nat → Nat) (B : Nat → Nat → Nat) (O : Nat → Nat → Nat → Int32) (g : CSt) (ln un nx pl : Nat) (f0 f1 f2 : Nat → Int32) : Met l yX9_glareLimit wsX9_glareLimit ({ frames := 0, cells := 0, slots := 0, locals := 0 } : Room) (va_Pc [.ref (v 0)] (PR D T (WIN T v B O g ln un nx pl f0 f1 f2))) (QcRead ((O 0) 0 1)) 0 0 (fun _ => False) := by
  refine metR (cc := cX9_glareLimit) (maxL := 1) (ty := .int) (by decide) rfl (by rfl) (Nat.le_of_ble_eq_true rfl) ?_
  intro p e s m args below meth c Q ls hx hb hml hown hts hP hK hl hret
  have hown : s.vm.findClass RX9 = some m.cls := hown
  have hl : lv_has ls 1 [(0, .ref (v 0))] := hl
  have i3 : ∀ w ∈ wsX30, w ∈ wsX9_glareLimit := by decide +kernel
  have i6 : ∀ w ∈ wsX60, w ∈ wsX9_glareLimit := by decide +kernel
  have i9 : ∀ w ∈ wsX90, w ∈ wsX9_glareLimit := by decide +kernel
  have w1 := hts (Cond.fieldLink RX9 19 "MoonComplaintWindow" "office" "LMoonComplaintWindow$Office;") (List.mem_of_getElem? (i := 1) rfl)
  have w2 := hts (Cond.fieldLink RX9 139 "MoonComplaintWindow$Office" "sky" "LMoonComplaintWindow$Sky;") (List.mem_of_getElem? (i := 2) rfl)
  have w3 := hts (Cond.fieldLink RX9 149 "MoonComplaintWindow$Sky" "glareLimit" "I") (List.mem_of_getElem? (i := 3) rfl)
  refine lv_aload_n hx hb dX9_glareLimit_0 rfl (lv_at hl 0 rfl) ?_
  refine va_get (D := D) (ci := 9) (v := .ref ((B 0) 0)) (C := RX9) (T := TX9) (N := 6) hx hb hts i9 hown hK hP 0 rfl rfl 1 (by decide) w1 (fun _ h9 => h9) rfl dX9_glareLimit_1 ?_
  refine va_get (D := D) (ci := 3) (v := .ref ((B 0) 1)) (C := RX3) (T := TX3) (N := 4) hx hb hts i3 hown hK hP (14 * 0 + 0 + 11) (WIN_get (by decide) (by decide) rfl) rfl 1 (by decide) w2 (fun _ h9 => h9) rfl dX9_glareLimit_4 ?_
  refine va_get (D := D) (ci := 6) (v := .int ((O 0) 0 1)) (C := RX6) (T := TX6) (N := 5) hx hb hts i6 hown hK hP (14 * 0 + 1 + 11) (WIN_get (by decide) (by decide) rfl) rfl 0 (by decide) w3 (fun _ h9 => h9) rfl dX9_glareLimit_7 ?_
  refine endI (r := (O 0) 0 1) (by first | rfl | (simp [bI, true_and]; done) | (skip; simp [bI, true_and]; done)) ?_
  exact hret ls _ dX9_glareLimit_10

set_option maxHeartbeats 4000000 in
set_option maxRecDepth 100000 in
theorem c_X9_gloomLimit (l : Launch) (D : va_G) (T : Nat → ClassId) (v : Nat → Nat) (B : Nat → Nat → Nat) (O : Nat → Nat → Nat → Int32) (g : CSt) (ln un nx pl : Nat) (f0 f1 f2 : Nat → Int32) : Met l yX9_gloomLimit wsX9_gloomLimit ({ frames := 0, cells := 0, slots := 0, locals := 0 } : Room) (va_Pc [.ref (v 0)] (PR D T (WIN T v B O g ln un nx pl f0 f1 f2))) (QcRead ((O 0) 0 2)) 0 0 (fun _ => False) := by
  refine metR (cc := cX9_gloomLimit) (maxL := 1) (ty := .int) (by decide) rfl (by rfl) (Nat.le_of_ble_eq_true rfl) ?_
  intro p e s m args below meth c Q ls hx hb hml hown hts hP hK hl hret
  have hown : s.vm.findClass RX9 = some m.cls := hown
  have hl : lv_has ls 1 [(0, .ref (v 0))] := hl
  have i3 : ∀ w ∈ wsX30, w ∈ wsX9_gloomLimit := by decide +kernel
  have i6 : ∀ w ∈ wsX60, w ∈ wsX9_gloomLimit := by decide +kernel
  have i9 : ∀ w ∈ wsX90, w ∈ wsX9_gloomLimit := by decide +kernel
  have w1 := hts (Cond.fieldLink RX9 19 "MoonComplaintWindow" "office" "LMoonComplaintWindow$Office;") (List.mem_of_getElem? (i := 1) rfl)
  have w2 := hts (Cond.fieldLink RX9 139 "MoonComplaintWindow$Office" "sky" "LMoonComplaintWindow$Sky;") (List.mem_of_getElem? (i := 2) rfl)
  have w3 := hts (Cond.fieldLink RX9 152 "MoonComplaintWindow$Sky" "gloomLimit" "I") (List.mem_of_getElem? (i := 3) rfl)
  refine lv_aload_n hx hb dX9_gloomLimit_0 rfl (lv_at hl 0 rfl) ?_
  refine va_get (D := D) (ci := 9) (v := .ref ((B 0) 0)) (C := RX9) (T := TX9) (N := 6) hx hb hts i9 hown hK hP 0 rfl rfl 1 (by decide) w1 (fun _ h9 => h9) rfl dX9_gloomLimit_1 ?_
  refine va_get (D := D) (ci := 3) (v := .ref ((B 0) 1)) (C := RX3) (T := TX3) (N := 4) hx hb hts i3 hown hK hP (14 * 0 + 0 + 11) (WIN_get (by decide) (by decide) rfl) rfl 1 (by decide) w2 (fun _ h9 => h9) rfl dX9_gloomLimit_4 ?_
  refine va_get (D := D) (ci := 6) (v := .int ((O 0) 0 2)) (C := RX6) (T := TX6) (N := 5) hx hb hts i6 hown hK hP (14 * 0 + 1 + 11) (WIN_get (by decide) (by decide) rfl) rfl 1 (by decide) w3 (fun _ h9 => h9) rfl dX9_gloomLimit_7 ?_
  refine endI (r := (O 0) 0 2) (by first | rfl | (simp [bI, true_and]; done) | (skip; simp [bI, true_and]; done)) ?_
  exact hret ls _ dX9_gloomLimit_10

set_option maxHeartbeats 4000000 in
set_option maxRecDepth 100000 in
theorem c_X9_tideLimit (l : Launch) (D : va_G) (T : Nat → ClassId) (v : Nat → Nat) (B : Nat → Nat → Nat) (O : Nat → Nat → Nat → Int32) (g : CSt) (ln un nx pl : Nat) (f0 f1 f2 : Nat → Int32) : Met l yX9_tideLimit wsX9_tideLimit ({ frames := 0, cells := 0, slots := 0, locals := 0 } : Room) (va_Pc [.ref (v 0)] (PR D T (WIN T v B O g ln un nx pl f0 f1 f2))) (QcRead ((O 0) 0 3)) 0 0 (fun _ => False) := by
  refine metR (cc := cX9_tideLimit) (maxL := 1) (ty := .int) (by decide) rfl (by rfl) (Nat.le_of_ble_eq_true rfl) ?_
  intro p e s m args below meth c Q ls hx hb hml hown hts hP hK hl hret
  have hown : s.vm.findClass RX9 = some m.cls := hown
  have hl : lv_has ls 1 [(0, .ref (v 0))] := hl
  have i3 : ∀ w ∈ wsX30, w ∈ wsX9_tideLimit := by decide +kernel
  have i6 : ∀ w ∈ wsX60, w ∈ wsX9_tideLimit := by decide +kernel
  have i9 : ∀ w ∈ wsX90, w ∈ wsX9_tideLimit := by decide +kernel
  have w1 := hts (Cond.fieldLink RX9 19 "MoonComplaintWindow" "office" "LMoonComplaintWindow$Office;") (List.mem_of_getElem? (i := 1) rfl)
  have w2 := hts (Cond.fieldLink RX9 139 "MoonComplaintWindow$Office" "sky" "LMoonComplaintWindow$Sky;") (List.mem_of_getElem? (i := 2) rfl)
  have w3 := hts (Cond.fieldLink RX9 155 "MoonComplaintWindow$Sky" "tideLimit" "I") (List.mem_of_getElem? (i := 3) rfl)
  refine lv_aload_n hx hb dX9_tideLimit_0 rfl (lv_at hl 0 rfl) ?_
  refine va_get (D := D) (ci := 9) (v := .ref ((B 0) 0)) (C := RX9) (T := TX9) (N := 6) hx hb hts i9 hown hK hP 0 rfl rfl 1 (by decide) w1 (fun _ h9 => h9) rfl dX9_tideLimit_1 ?_
  refine va_get (D := D) (ci := 3) (v := .ref ((B 0) 1)) (C := RX3) (T := TX3) (N := 4) hx hb hts i3 hown hK hP (14 * 0 + 0 + 11) (WIN_get (by decide) (by decide) rfl) rfl 1 (by decide) w2 (fun _ h9 => h9) rfl dX9_tideLimit_4 ?_
  refine va_get (D := D) (ci := 6) (v := .int ((O 0) 0 3)) (C := RX6) (T := TX6) (N := 5) hx hb hts i6 hown hK hP (14 * 0 + 1 + 11) (WIN_get (by decide) (by decide) rfl) rfl 2 (by decide) w3 (fun _ h9 => h9) rfl dX9_tideLimit_7 ?_
  refine endI (r := (O 0) 0 3) (by first | rfl | (simp [bI, true_and]; done) | (skip; simp [bI, true_and]; done)) ?_
  exact hret ls _ dX9_tideLimit_10

set_option maxHeartbeats 4000000 in
set_option maxRecDepth 100000 in
theorem c_X9_cloudCount (l : Launch) (D : va_G) (T : Nat → ClassId) (v : Nat → Nat) (B : Nat → Nat → Nat) (O : Nat → Nat → Nat → Int32) (g : CSt) (ln un nx pl : Nat) (f0 f1 f2 : Nat → Int32) : Met l yX9_cloudCount wsX9_cloudCount ({ frames := 0, cells := 0, slots := 0, locals := 0 } : Room) (va_Pc [.ref (v 0)] (PR D T (WIN T v B O g ln un nx pl f0 f1 f2))) (QcRead ((O 0) 0 4)) 0 0 (fun _ => False) := by
  refine metR (cc := cX9_cloudCount) (maxL := 1) (ty := .int) (by decide) rfl (by rfl) (Nat.le_of_ble_eq_true rfl) ?_
  intro p e s m args below meth c Q ls hx hb hml hown hts hP hK hl hret
  have hown : s.vm.findClass RX9 = some m.cls := hown
  have hl : lv_has ls 1 [(0, .ref (v 0))] := hl
  have i3 : ∀ w ∈ wsX30, w ∈ wsX9_cloudCount := by decide +kernel
  have i6 : ∀ w ∈ wsX60, w ∈ wsX9_cloudCount := by decide +kernel
  have i9 : ∀ w ∈ wsX90, w ∈ wsX9_cloudCount := by decide +kernel
  have w1 := hts (Cond.fieldLink RX9 19 "MoonComplaintWindow" "office" "LMoonComplaintWindow$Office;") (List.mem_of_getElem? (i := 1) rfl)
  have w2 := hts (Cond.fieldLink RX9 139 "MoonComplaintWindow$Office" "sky" "LMoonComplaintWindow$Sky;") (List.mem_of_getElem? (i := 2) rfl)
  have w3 := hts (Cond.fieldLink RX9 158 "MoonComplaintWindow$Sky" "total" "I") (List.mem_of_getElem? (i := 3) rfl)
  refine lv_aload_n hx hb dX9_cloudCount_0 rfl (lv_at hl 0 rfl) ?_
  refine va_get (D := D) (ci := 9) (v := .ref ((B 0) 0)) (C := RX9) (T := TX9) (N := 6) hx hb hts i9 hown hK hP 0 rfl rfl 1 (by decide) w1 (fun _ h9 => h9) rfl dX9_cloudCount_1 ?_
  refine va_get (D := D) (ci := 3) (v := .ref ((B 0) 1)) (C := RX3) (T := TX3) (N := 4) hx hb hts i3 hown hK hP (14 * 0 + 0 + 11) (WIN_get (by decide) (by decide) rfl) rfl 1 (by decide) w2 (fun _ h9 => h9) rfl dX9_cloudCount_4 ?_
  refine va_get (D := D) (ci := 6) (v := .int ((O 0) 0 4)) (C := RX6) (T := TX6) (N := 5) hx hb hts i6 hown hK hP (14 * 0 + 1 + 11) (WIN_get (by decide) (by decide) rfl) rfl 3 (by decide) w3 (fun _ h9 => h9) rfl dX9_cloudCount_7 ?_
  refine endI (r := (O 0) 0 4) (by first | rfl | (simp [bI, true_and]; done) | (skip; simp [bI, true_and]; done)) ?_
  exact hret ls _ dX9_cloudCount_10

set_option maxHeartbeats 4000000 in
set_option maxRecDepth 100000 in
theorem c_X9_complaintCount (l : Launch) (D : va_G) (T : Nat → ClassId) (v : Nat → Nat) (B : Nat → Nat → Nat) (O : Nat → Nat → Nat → Int32) (g : CSt) (ln un nx pl : Nat) (f0 f1 f2 : Nat → Int32) : Met l yX9_complaintCount wsX9_complaintCount ({ frames := 0, cells := 0, slots := 0, locals := 0 } : Room) (va_Pc [.ref (v 0)] (PR D T (WIN T v B O g ln un nx pl f0 f1 f2))) (QcRead ((O 0) 0 7)) 0 0 (fun _ => False) := by
  refine metR (cc := cX9_complaintCount) (maxL := 1) (ty := .int) (by decide) rfl (by rfl) (Nat.le_of_ble_eq_true rfl) ?_
  intro p e s m args below meth c Q ls hx hb hml hown hts hP hK hl hret
  have hown : s.vm.findClass RX9 = some m.cls := hown
  have hl : lv_has ls 1 [(0, .ref (v 0))] := hl
  have i3 : ∀ w ∈ wsX30, w ∈ wsX9_complaintCount := by decide +kernel
  have i5 : ∀ w ∈ wsX50, w ∈ wsX9_complaintCount := by decide +kernel
  have i9 : ∀ w ∈ wsX90, w ∈ wsX9_complaintCount := by decide +kernel
  have w1 := hts (Cond.fieldLink RX9 19 "MoonComplaintWindow" "office" "LMoonComplaintWindow$Office;") (List.mem_of_getElem? (i := 1) rfl)
  have w2 := hts (Cond.fieldLink RX9 107 "MoonComplaintWindow$Office" "pile" "LMoonComplaintWindow$Pile;") (List.mem_of_getElem? (i := 2) rfl)
  have w3 := hts (Cond.fieldLink RX9 111 "MoonComplaintWindow$Pile" "total" "I") (List.mem_of_getElem? (i := 3) rfl)
  refine lv_aload_n hx hb dX9_complaintCount_0 rfl (lv_at hl 0 rfl) ?_
  refine va_get (D := D) (ci := 9) (v := .ref ((B 0) 0)) (C := RX9) (T := TX9) (N := 6) hx hb hts i9 hown hK hP 0 rfl rfl 1 (by decide) w1 (fun _ h9 => h9) rfl dX9_complaintCount_1 ?_
  refine va_get (D := D) (ci := 3) (v := .ref ((B 0) 6)) (C := RX3) (T := TX3) (N := 4) hx hb hts i3 hown hK hP (14 * 0 + 0 + 11) (WIN_get (by decide) (by decide) rfl) rfl 3 (by decide) w2 (fun _ h9 => h9) rfl dX9_complaintCount_4 ?_
  refine va_get (D := D) (ci := 5) (v := .int ((O 0) 0 7)) (C := RX5) (T := TX5) (N := 8) hx hb hts i5 hown hK hP (14 * 0 + 6 + 11) (WIN_get (by decide) (by decide) rfl) rfl 0 (by decide) w3 (fun _ h9 => h9) rfl dX9_complaintCount_7 ?_
  refine endI (r := (O 0) 0 7) (by first | rfl | (simp [bI, true_and]; done) | (skip; simp [bI, true_and]; done)) ?_
  exact hret ls _ dX9_complaintCount_10

set_option maxHeartbeats 4000000 in
set_option maxRecDepth 100000 in
theorem c_X9_clerkCount (l : Launch) (D : va_G) (T : Nat → ClassId) (v : Nat → Nat) (B : Nat → Nat → Nat) (O : Nat → Nat → Nat → Int32) (g : CSt) (ln un nx pl : Nat) (f0 f1 f2 : Nat → Int32) : Met l yX9_clerkCount wsX9_clerkCount ({ frames := 0, cells := 0, slots := 0, locals := 0 } : Room) (va_Pc [.ref (v 0)] (PR D T (WIN T v B O g ln un nx pl f0 f1 f2))) (QcRead ((O 0) 0 5)) 0 0 (fun _ => False) := by
  refine metR (cc := cX9_clerkCount) (maxL := 1) (ty := .int) (by decide) rfl (by rfl) (Nat.le_of_ble_eq_true rfl) ?_
  intro p e s m args below meth c Q ls hx hb hml hown hts hP hK hl hret
  have hown : s.vm.findClass RX9 = some m.cls := hown
  have hl : lv_has ls 1 [(0, .ref (v 0))] := hl
  have i3 : ∀ w ∈ wsX30, w ∈ wsX9_clerkCount := by decide +kernel
  have i8 : ∀ w ∈ wsX80, w ∈ wsX9_clerkCount := by decide +kernel
  have i9 : ∀ w ∈ wsX90, w ∈ wsX9_clerkCount := by decide +kernel
  have w1 := hts (Cond.fieldLink RX9 19 "MoonComplaintWindow" "office" "LMoonComplaintWindow$Office;") (List.mem_of_getElem? (i := 1) rfl)
  have w2 := hts (Cond.fieldLink RX9 224 "MoonComplaintWindow$Office" "staff" "LMoonComplaintWindow$Staff;") (List.mem_of_getElem? (i := 2) rfl)
  have w3 := hts (Cond.fieldLink RX9 228 "MoonComplaintWindow$Staff" "total" "I") (List.mem_of_getElem? (i := 3) rfl)
  refine lv_aload_n hx hb dX9_clerkCount_0 rfl (lv_at hl 0 rfl) ?_
  refine va_get (D := D) (ci := 9) (v := .ref ((B 0) 0)) (C := RX9) (T := TX9) (N := 6) hx hb hts i9 hown hK hP 0 rfl rfl 1 (by decide) w1 (fun _ h9 => h9) rfl dX9_clerkCount_1 ?_
  refine va_get (D := D) (ci := 3) (v := .ref ((B 0) 3)) (C := RX3) (T := TX3) (N := 4) hx hb hts i3 hown hK hP (14 * 0 + 0 + 11) (WIN_get (by decide) (by decide) rfl) rfl 2 (by decide) w2 (fun _ h9 => h9) rfl dX9_clerkCount_4 ?_
  refine va_get (D := D) (ci := 8) (v := .int ((O 0) 0 5)) (C := RX8) (T := TX8) (N := 4) hx hb hts i8 hown hK hP (14 * 0 + 3 + 11) (WIN_get (by decide) (by decide) rfl) rfl 0 (by decide) w3 (fun _ h9 => h9) rfl dX9_clerkCount_7 ?_
  refine endI (r := (O 0) 0 5) (by first | rfl | (simp [bI, true_and]; done) | (skip; simp [bI, true_and]; done)) ?_
  exact hret ls _ dX9_clerkCount_10

set_option maxHeartbeats 4000000 in
set_option maxRecDepth 100000 in
theorem c_X9_oilUsed (l : Launch) (D : va_G) (T : Nat → ClassId) (v : Nat → Nat) (B : Nat → Nat → Nat) (O : Nat → Nat → Nat → Int32) (g : CSt) (ln un nx pl : Nat) (f0 f1 f2 : Nat → Int32) : Met l yX9_oilUsed wsX9_oilUsed ({ frames := 0, cells := 0, slots := 0, locals := 0 } : Room) (va_Pc [.ref (v 0)] (PR D T (WIN T v B O g ln un nx pl f0 f1 f2))) (QcRead ((O 0) 0 6)) 0 0 (fun _ => False) := by
  refine metR (cc := cX9_oilUsed) (maxL := 1) (ty := .int) (by decide) rfl (by rfl) (Nat.le_of_ble_eq_true rfl) ?_
  intro p e s m args below meth c Q ls hx hb hml hown hts hP hK hl hret
  have hown : s.vm.findClass RX9 = some m.cls := hown
  have hl : lv_has ls 1 [(0, .ref (v 0))] := hl
  have i3 : ∀ w ∈ wsX30, w ∈ wsX9_oilUsed := by decide +kernel
  have i8 : ∀ w ∈ wsX80, w ∈ wsX9_oilUsed := by decide +kernel
  have i9 : ∀ w ∈ wsX90, w ∈ wsX9_oilUsed := by decide +kernel
  have w1 := hts (Cond.fieldLink RX9 19 "MoonComplaintWindow" "office" "LMoonComplaintWindow$Office;") (List.mem_of_getElem? (i := 1) rfl)
  have w2 := hts (Cond.fieldLink RX9 224 "MoonComplaintWindow$Office" "staff" "LMoonComplaintWindow$Staff;") (List.mem_of_getElem? (i := 2) rfl)
  have w3 := hts (Cond.fieldLink RX9 251 "MoonComplaintWindow$Staff" "oilUsed" "I") (List.mem_of_getElem? (i := 3) rfl)
  refine lv_aload_n hx hb dX9_oilUsed_0 rfl (lv_at hl 0 rfl) ?_
  refine va_get (D := D) (ci := 9) (v := .ref ((B 0) 0)) (C := RX9) (T := TX9) (N := 6) hx hb hts i9 hown hK hP 0 rfl rfl 1 (by decide) w1 (fun _ h9 => h9) rfl dX9_oilUsed_1 ?_
  refine va_get (D := D) (ci := 3) (v := .ref ((B 0) 3)) (C := RX3) (T := TX3) (N := 4) hx hb hts i3 hown hK hP (14 * 0 + 0 + 11) (WIN_get (by decide) (by decide) rfl) rfl 2 (by decide) w2 (fun _ h9 => h9) rfl dX9_oilUsed_4 ?_
  refine va_get (D := D) (ci := 8) (v := .int ((O 0) 0 6)) (C := RX8) (T := TX8) (N := 4) hx hb hts i8 hown hK hP (14 * 0 + 3 + 11) (WIN_get (by decide) (by decide) rfl) rfl 1 (by decide) w3 (fun _ h9 => h9) rfl dX9_oilUsed_7 ?_
  refine endI (r := (O 0) 0 6) (by first | rfl | (simp [bI, true_and]; done) | (skip; simp [bI, true_and]; done)) ?_
  exact hret ls _ dX9_oilUsed_10

set_option maxHeartbeats 4000000 in
set_option maxRecDepth 100000 in
theorem c_X9_hasError (l : Launch) (D : va_G) (T : Nat → ClassId) (v : Nat → Nat) (B : Nat → Nat → Nat) (O : Nat → Nat → Nat → Int32) (g : CSt) (ln un nx pl : Nat) (f0 f1 f2 : Nat → Int32) : Met l yX9_hasError wsX9_hasError ({ frames := 0, cells := 0, slots := 0, locals := 0 } : Room) (va_Pc [.ref (v 0)] (PR D T (WIN T v B O g ln un nx pl f0 f1 f2))) (QcRead (bI g.2.2.2.1)) 0 0 (fun _ => False) := by
  refine metR (cc := cX9_hasError) (maxL := 1) (ty := .boolean) (by decide) rfl (by exact bI_nb _) (Nat.le_of_ble_eq_true rfl) ?_
  intro p e s m args below meth c Q ls hx hb hml hown hts hP hK hl hret
  have hown : s.vm.findClass RX9 = some m.cls := hown
  have hl : lv_has ls 1 [(0, .ref (v 0))] := hl
  have i2 : ∀ w ∈ wsX20, w ∈ wsX9_hasError := by decide +kernel
  have i9 : ∀ w ∈ wsX90, w ∈ wsX9_hasError := by decide +kernel
  have w1 := hts (Cond.fieldLink RX9 12 "MoonComplaintWindow" "loader" "LMoonComplaintWindow$Loader;") (List.mem_of_getElem? (i := 1) rfl)
  have w2 := hts (Cond.fieldLink RX9 97 "MoonComplaintWindow$Loader" "failed" "Z") (List.mem_of_getElem? (i := 2) rfl)
  refine lv_aload_n hx hb dX9_hasError_0 rfl (lv_at hl 0 rfl) ?_
  refine va_get (D := D) (ci := 9) (v := .ref (v 1)) (C := RX9) (T := TX9) (N := 6) hx hb hts i9 hown hK hP 0 rfl rfl 0 (by decide) w1 (fun _ h9 => h9) rfl dX9_hasError_1 ?_
  refine va_get (D := D) (ci := 2) (v := .int (bI g.2.2.2.1)) (C := RX2) (T := TX2) (N := 4) hx hb hts i2 hown hK hP 1 rfl rfl 0 (by decide) w2 (fun _ h9 => h9) rfl dX9_hasError_4 ?_
  refine endI (r := bI g.2.2.2.1) (by first | rfl | (simp [bI, true_and]; done) | (skip; simp [bI, true_and]; done)) ?_
  exact hret ls _ dX9_hasError_7

set_option maxHeartbeats 4000000 in
set_option maxRecDepth 100000 in
theorem c_X9_waitingCount (l : Launch) (D : va_G) (T : Nat → ClassId) (v : Nat → Nat) (B : Nat → Nat → Nat) (O : Nat → Nat → Nat → Int32) (g : CSt) (ln un nx pl : Nat) (f0 f1 f2 : Nat → Int32) (N : Nat) (K : Nat) (C : Nat) (nt : Nat) (hOI : OI (O 0) N K C nt) : Met l yX9_waitingCount wsX9_waitingCount ({ frames := 1, cells := 0, slots := 0, locals := 23 } : Room) (va_Pc [.ref (v 0)] (PR D T (WIN T v B O g ln un nx pl f0 f1 f2))) (QcRead (cntC (O 0) 0 N)) 0 0 (fun _ => False) := by
  refine metR (cc := cX9_waitingCount) (maxL := 1) (ty := .int) (by decide) rfl (by rfl) (Nat.le_of_ble_eq_true rfl) ?_
  intro p e s m args below meth c Q ls hx hb hml hown hts hP hK hl hret
  have hown : s.vm.findClass RX9 = some m.cls := hown
  have hl : lv_has ls 1 [(0, .ref (v 0))] := hl
  have i3 : ∀ w ∈ wsX30, w ∈ wsX9_waitingCount := by decide +kernel
  have i9 : ∀ w ∈ wsX90, w ∈ wsX9_waitingCount := by decide +kernel
  have w1 := hts (Cond.fieldLink RX9 19 "MoonComplaintWindow" "office" "LMoonComplaintWindow$Office;") (List.mem_of_getElem? (i := 1) rfl)
  have w2 := hts (Cond.fieldLink RX9 107 "MoonComplaintWindow$Office" "pile" "LMoonComplaintWindow$Pile;") (List.mem_of_getElem? (i := 2) rfl)
  obtain ⟨hN, hN2, hKn, hK2, hCn, hC1, hC2, hn, hnt, hSK⟩ := id hOI
  refine lv_aload_n hx hb dX9_waitingCount_0 rfl (lv_at hl 0 rfl) ?_
  refine va_get (D := D) (ci := 9) (v := .ref ((B 0) 0)) (C := RX9) (T := TX9) (N := 6) hx hb hts i9 hown hK hP 0 rfl rfl 1 (by decide) w1 (fun _ h9 => h9) rfl dX9_waitingCount_1 ?_
  refine va_get (D := D) (ci := 3) (v := .ref ((B 0) 6)) (C := RX3) (T := TX3) (N := 4) hx hb hts i3 hown hK hP (14 * 0 + 0 + 11) (WIN_get (by decide) (by decide) rfl) rfl 3 (by decide) w2 (fun _ h9 => h9) rfl dX9_waitingCount_4 ?_
  refine lv_iconst (v := 0) hx hb dX9_waitingCount_7 (by decide) ?_
  refine rdV (As := [.int (0)]) (rest := []) ⟨hx, hb, hml, hown, hts⟩ (c_X5_countInState l D T (B 0) (O 0) 0 N hN hN2) (cwV 1 hts gX9_waitingCount_X5_countInState rfl rfl rfl (by decide +kernel) ⟨Nat.le_of_ble_eq_true rfl, Nat.le_of_ble_eq_true rfl⟩) hK ((WIN_off (j := 0) (by decide) (O 0)).subP hP) 6 rfl rfl rfl hl.1 rfl (Nat.le_of_ble_eq_true rfl) ⟨Nat.zero_le _, Nat.zero_le _⟩ dX9_waitingCount_8 ?_
  refine endI (r := cntC (O 0) 0 N) (by rfl) ?_
  exact hret ls _ dX9_waitingCount_11

set_option maxHeartbeats 4000000 in
set_option maxRecDepth 100000 in
theorem c_X9_answeredCount (l : Launch) (D : va_G) (T : Nat → ClassId) (v : Nat → Nat) (B : Nat → Nat → Nat) (O : Nat → Nat → Nat → Int32) (g : CSt) (ln un nx pl : Nat) (f0 f1 f2 : Nat → Int32) (N : Nat) (K : Nat) (C : Nat) (nt : Nat) (hOI : OI (O 0) N K C nt) : Met l yX9_answeredCount wsX9_answeredCount ({ frames := 1, cells := 0, slots := 0, locals := 23 } : Room) (va_Pc [.ref (v 0)] (PR D T (WIN T v B O g ln un nx pl f0 f1 f2))) (QcRead (cntC (O 0) 1 N)) 0 0 (fun _ => False) := by
  refine metR (cc := cX9_answeredCount) (maxL := 1) (ty := .int) (by decide) rfl (by rfl) (Nat.le_of_ble_eq_true rfl) ?_
  intro p e s m args below meth c Q ls hx hb hml hown hts hP hK hl hret
  have hown : s.vm.findClass RX9 = some m.cls := hown
  have hl : lv_has ls 1 [(0, .ref (v 0))] := hl
  have i3 : ∀ w ∈ wsX30, w ∈ wsX9_answeredCount := by decide +kernel
  have i9 : ∀ w ∈ wsX90, w ∈ wsX9_answeredCount := by decide +kernel
  have w1 := hts (Cond.fieldLink RX9 19 "MoonComplaintWindow" "office" "LMoonComplaintWindow$Office;") (List.mem_of_getElem? (i := 1) rfl)
  have w2 := hts (Cond.fieldLink RX9 107 "MoonComplaintWindow$Office" "pile" "LMoonComplaintWindow$Pile;") (List.mem_of_getElem? (i := 2) rfl)
  obtain ⟨hN, hN2, hKn, hK2, hCn, hC1, hC2, hn, hnt, hSK⟩ := id hOI
  refine lv_aload_n hx hb dX9_answeredCount_0 rfl (lv_at hl 0 rfl) ?_
  refine va_get (D := D) (ci := 9) (v := .ref ((B 0) 0)) (C := RX9) (T := TX9) (N := 6) hx hb hts i9 hown hK hP 0 rfl rfl 1 (by decide) w1 (fun _ h9 => h9) rfl dX9_answeredCount_1 ?_
  refine va_get (D := D) (ci := 3) (v := .ref ((B 0) 6)) (C := RX3) (T := TX3) (N := 4) hx hb hts i3 hown hK hP (14 * 0 + 0 + 11) (WIN_get (by decide) (by decide) rfl) rfl 3 (by decide) w2 (fun _ h9 => h9) rfl dX9_answeredCount_4 ?_
  refine lv_iconst (v := 1) hx hb dX9_answeredCount_7 (by decide) ?_
  refine rdV (As := [.int (1)]) (rest := []) ⟨hx, hb, hml, hown, hts⟩ (c_X5_countInState l D T (B 0) (O 0) 1 N hN hN2) (cwV 1 hts gX9_answeredCount_X5_countInState rfl rfl rfl (by decide +kernel) ⟨Nat.le_of_ble_eq_true rfl, Nat.le_of_ble_eq_true rfl⟩) hK ((WIN_off (j := 0) (by decide) (O 0)).subP hP) 6 rfl rfl rfl hl.1 rfl (Nat.le_of_ble_eq_true rfl) ⟨Nat.zero_le _, Nat.zero_le _⟩ dX9_answeredCount_8 ?_
  refine endI (r := cntC (O 0) 1 N) (by rfl) ?_
  exact hret ls _ dX9_answeredCount_11

set_option maxHeartbeats 4000000 in
set_option maxRecDepth 100000 in
theorem c_X9_dismissedCount (l : Launch) (D : va_G) (T : Nat → ClassId) (v : Nat → Nat) (B : Nat → Nat → Nat) (O : Nat → Nat → Nat → Int32) (g : CSt) (ln un nx pl : Nat) (f0 f1 f2 : Nat → Int32) (N : Nat) (K : Nat) (C : Nat) (nt : Nat) (hOI : OI (O 0) N K C nt) : Met l yX9_dismissedCount wsX9_dismissedCount ({ frames := 1, cells := 0, slots := 0, locals := 23 } : Room) (va_Pc [.ref (v 0)] (PR D T (WIN T v B O g ln un nx pl f0 f1 f2))) (QcRead (cntC (O 0) 2 N)) 0 0 (fun _ => False) := by
  refine metR (cc := cX9_dismissedCount) (maxL := 1) (ty := .int) (by decide) rfl (by rfl) (Nat.le_of_ble_eq_true rfl) ?_
  intro p e s m args below meth c Q ls hx hb hml hown hts hP hK hl hret
  have hown : s.vm.findClass RX9 = some m.cls := hown
  have hl : lv_has ls 1 [(0, .ref (v 0))] := hl
  have i3 : ∀ w ∈ wsX30, w ∈ wsX9_dismissedCount := by decide +kernel
  have i9 : ∀ w ∈ wsX90, w ∈ wsX9_dismissedCount := by decide +kernel
  have w1 := hts (Cond.fieldLink RX9 19 "MoonComplaintWindow" "office" "LMoonComplaintWindow$Office;") (List.mem_of_getElem? (i := 1) rfl)
  have w2 := hts (Cond.fieldLink RX9 107 "MoonComplaintWindow$Office" "pile" "LMoonComplaintWindow$Pile;") (List.mem_of_getElem? (i := 2) rfl)
  obtain ⟨hN, hN2, hKn, hK2, hCn, hC1, hC2, hn, hnt, hSK⟩ := id hOI
  refine lv_aload_n hx hb dX9_dismissedCount_0 rfl (lv_at hl 0 rfl) ?_
  refine va_get (D := D) (ci := 9) (v := .ref ((B 0) 0)) (C := RX9) (T := TX9) (N := 6) hx hb hts i9 hown hK hP 0 rfl rfl 1 (by decide) w1 (fun _ h9 => h9) rfl dX9_dismissedCount_1 ?_
  refine va_get (D := D) (ci := 3) (v := .ref ((B 0) 6)) (C := RX3) (T := TX3) (N := 4) hx hb hts i3 hown hK hP (14 * 0 + 0 + 11) (WIN_get (by decide) (by decide) rfl) rfl 3 (by decide) w2 (fun _ h9 => h9) rfl dX9_dismissedCount_4 ?_
  refine lv_iconst (v := 2) hx hb dX9_dismissedCount_7 (by decide) ?_
  refine rdV (As := [.int (2)]) (rest := []) ⟨hx, hb, hml, hown, hts⟩ (c_X5_countInState l D T (B 0) (O 0) 2 N hN hN2) (cwV 1 hts gX9_dismissedCount_X5_countInState rfl rfl rfl (by decide +kernel) ⟨Nat.le_of_ble_eq_true rfl, Nat.le_of_ble_eq_true rfl⟩) hK ((WIN_off (j := 0) (by decide) (O 0)).subP hP) 6 rfl rfl rfl hl.1 rfl (Nat.le_of_ble_eq_true rfl) ⟨Nat.zero_le _, Nat.zero_le _⟩ dX9_dismissedCount_8 ?_
  refine endI (r := cntC (O 0) 2 N) (by rfl) ?_
  exact hret ls _ dX9_dismissedCount_11

set_option maxHeartbeats 4000000 in
set_option maxRecDepth 100000 in
theorem c_X9_givenUpCount (l : Launch) (D : va_G) (T : Nat → ClassId) (v : Nat → Nat) (B : Nat → Nat → Nat) (O : Nat → Nat → Nat → Int32) (g : CSt) (ln un nx pl : Nat) (f0 f1 f2 : Nat → Int32) (N : Nat) (K : Nat) (C : Nat) (nt : Nat) (hOI : OI (O 0) N K C nt) : Met l yX9_givenUpCount wsX9_givenUpCount ({ frames := 1, cells := 0, slots := 0, locals := 23 } : Room) (va_Pc [.ref (v 0)] (PR D T (WIN T v B O g ln un nx pl f0 f1 f2))) (QcRead (cntC (O 0) 3 N)) 0 0 (fun _ => False) := by
  refine metR (cc := cX9_givenUpCount) (maxL := 1) (ty := .int) (by decide) rfl (by rfl) (Nat.le_of_ble_eq_true rfl) ?_
  intro p e s m args below meth c Q ls hx hb hml hown hts hP hK hl hret
  have hown : s.vm.findClass RX9 = some m.cls := hown
  have hl : lv_has ls 1 [(0, .ref (v 0))] := hl
  have i3 : ∀ w ∈ wsX30, w ∈ wsX9_givenUpCount := by decide +kernel
  have i9 : ∀ w ∈ wsX90, w ∈ wsX9_givenUpCount := by decide +kernel
  have w1 := hts (Cond.fieldLink RX9 19 "MoonComplaintWindow" "office" "LMoonComplaintWindow$Office;") (List.mem_of_getElem? (i := 1) rfl)
  have w2 := hts (Cond.fieldLink RX9 107 "MoonComplaintWindow$Office" "pile" "LMoonComplaintWindow$Pile;") (List.mem_of_getElem? (i := 2) rfl)
  obtain ⟨hN, hN2, hKn, hK2, hCn, hC1, hC2, hn, hnt, hSK⟩ := id hOI
  refine lv_aload_n hx hb dX9_givenUpCount_0 rfl (lv_at hl 0 rfl) ?_
  refine va_get (D := D) (ci := 9) (v := .ref ((B 0) 0)) (C := RX9) (T := TX9) (N := 6) hx hb hts i9 hown hK hP 0 rfl rfl 1 (by decide) w1 (fun _ h9 => h9) rfl dX9_givenUpCount_1 ?_
  refine va_get (D := D) (ci := 3) (v := .ref ((B 0) 6)) (C := RX3) (T := TX3) (N := 4) hx hb hts i3 hown hK hP (14 * 0 + 0 + 11) (WIN_get (by decide) (by decide) rfl) rfl 3 (by decide) w2 (fun _ h9 => h9) rfl dX9_givenUpCount_4 ?_
  refine lv_iconst (v := 3) hx hb dX9_givenUpCount_7 (by decide) ?_
  refine rdV (As := [.int (3)]) (rest := []) ⟨hx, hb, hml, hown, hts⟩ (c_X5_countInState l D T (B 0) (O 0) 3 N hN hN2) (cwV 1 hts gX9_givenUpCount_X5_countInState rfl rfl rfl (by decide +kernel) ⟨Nat.le_of_ble_eq_true rfl, Nat.le_of_ble_eq_true rfl⟩) hK ((WIN_off (j := 0) (by decide) (O 0)).subP hP) 6 rfl rfl rfl hl.1 rfl (Nat.le_of_ble_eq_true rfl) ⟨Nat.zero_le _, Nat.zero_le _⟩ dX9_givenUpCount_8 ?_
  refine endI (r := cntC (O 0) 3 N) (by rfl) ?_
  exact hret ls _ dX9_givenUpCount_11

set_option maxHeartbeats 4000000 in
set_option maxRecDepth 100000 in
theorem c_X9_oilCost (l : Launch) (D : va_G) (T : Nat → ClassId) (v : Nat → Nat) (B : Nat → Nat → Nat) (O : Nat → Nat → Nat → Int32) (g : CSt) (ln un nx pl : Nat) (f0 f1 f2 : Nat → Int32) (N : Nat) (K : Nat) (C : Nat) (nt : Nat) (hOI : OI (O 0) N K C nt) : Met l yX9_oilCost wsX9_oilCost ({ frames := 4, cells := 0, slots := 0, locals := 83 } : Room) (va_Pc [.ref (v 0)] (PR D T (WIN T v B O g ln un nx pl f0 f1 f2))) (QcRead (costC C nt (O 0))) 0 0 (fun _ => False) := by
  refine metR (cc := cX9_oilCost) (maxL := 1) (ty := .int) (by decide) rfl (by rfl) (Nat.le_of_ble_eq_true rfl) ?_
  intro p e s m args below meth c Q ls hx hb hml hown hts hP hK hl hret
  have hown : s.vm.findClass RX9 = some m.cls := hown
  have hl : lv_has ls 1 [(0, .ref (v 0))] := hl
  have i3 : ∀ w ∈ wsX30, w ∈ wsX9_oilCost := by decide +kernel
  have i9 : ∀ w ∈ wsX90, w ∈ wsX9_oilCost := by decide +kernel
  have w1 := hts (Cond.fieldLink RX9 19 "MoonComplaintWindow" "office" "LMoonComplaintWindow$Office;") (List.mem_of_getElem? (i := 1) rfl)
  have w2 := hts (Cond.fieldLink RX9 139 "MoonComplaintWindow$Office" "sky" "LMoonComplaintWindow$Sky;") (List.mem_of_getElem? (i := 2) rfl)
  have w3 := hts (Cond.fieldLink RX9 124 "MoonComplaintWindow$Office" "night" "I") (List.mem_of_getElem? (i := 3) rfl)
  obtain ⟨hN, hN2, hKn, hK2, hCn, hC1, hC2, hn, hnt, hSK⟩ := id hOI
  refine lv_aload_n hx hb dX9_oilCost_0 rfl (lv_at hl 0 rfl) ?_
  refine va_get (D := D) (ci := 9) (v := .ref ((B 0) 0)) (C := RX9) (T := TX9) (N := 6) hx hb hts i9 hown hK hP 0 rfl rfl 1 (by decide) w1 (fun _ h9 => h9) rfl dX9_oilCost_1 ?_
  refine va_get (D := D) (ci := 3) (v := .ref ((B 0) 1)) (C := RX3) (T := TX3) (N := 4) hx hb hts i3 hown hK hP (14 * 0 + 0 + 11) (WIN_get (by decide) (by decide) rfl) rfl 1 (by decide) w2 (fun _ h9 => h9) rfl dX9_oilCost_4 ?_
  refine lv_aload_n hx hb dX9_oilCost_7 rfl (lv_at hl 0 rfl) ?_
  refine va_get (D := D) (ci := 9) (v := .ref ((B 0) 0)) (C := RX9) (T := TX9) (N := 6) hx hb hts i9 hown hK hP 0 rfl rfl 1 (by decide) w1 (fun _ h9 => h9) rfl dX9_oilCost_8 ?_
  refine va_get (D := D) (ci := 3) (v := .int ((O 0) 0 0)) (C := RX3) (T := TX3) (N := 4) hx hb hts i3 hown hK hP (14 * 0 + 0 + 11) (WIN_get (by decide) (by decide) rfl) rfl 0 (by decide) w3 (fun _ h9 => h9) rfl dX9_oilCost_11 ?_
  refine endI (r := nI nt) (hn) ?_
  refine rdV (As := [.int (nI nt)]) (rest := []) ⟨hx, hb, hml, hown, hts⟩ (c_X6_costIn l D T (B 0) (O 0) nt C hCn hC1 hC2 (by omega)) (cwV 1 hts gX9_oilCost_X6_costIn rfl rfl rfl (by decide +kernel) ⟨Nat.le_of_ble_eq_true rfl, Nat.le_of_ble_eq_true rfl⟩) hK ((WIN_off (j := 0) (by decide) (O 0)).subP hP) 1 rfl rfl rfl hl.1 rfl (Nat.le_of_ble_eq_true rfl) ⟨Nat.zero_le _, Nat.zero_le _⟩ dX9_oilCost_14 ?_
  refine endI (r := costC C nt (O 0)) (by rfl) ?_
  exact hret ls _ dX9_oilCost_17

set_option maxHeartbeats 4000000 in
set_option maxRecDepth 100000 in
theorem c_X9_comfort (l : Launch) (D : va_G) (T : Nat → ClassId) (v : Nat → Nat) (B : Nat → Nat → Nat) (O : Nat → Nat → Nat → Int32) (g : CSt) (ln un nx pl : Nat) (f0 f1 f2 : Nat → Int32) (N : Nat) (K : Nat) (C : Nat) (nt : Nat) (hOI : OI (O 0) N K C nt) : Met l yX9_comfort wsX9_comfort ({ frames := 1, cells := 0, slots := 0, locals := 22 } : Room) (va_Pc [.ref (v 0)] (PR D T (WIN T v B O g ln un nx pl f0 f1 f2))) (QcRead (sumI (fun k => decide ((O 0) 8 k = 1)) (fun k => (O 0) 6 k) N 0 0)) 0 0 (fun _ => False) := by
  refine metR (cc := cX9_comfort) (maxL := 1) (ty := .int) (by decide) rfl (by rfl) (Nat.le_of_ble_eq_true rfl) ?_
  intro p e s m args below meth c Q ls hx hb hml hown hts hP hK hl hret
  have hown : s.vm.findClass RX9 = some m.cls := hown
  have hl : lv_has ls 1 [(0, .ref (v 0))] := hl
  have i3 : ∀ w ∈ wsX30, w ∈ wsX9_comfort := by decide +kernel
  have i9 : ∀ w ∈ wsX90, w ∈ wsX9_comfort := by decide +kernel
  have w1 := hts (Cond.fieldLink RX9 19 "MoonComplaintWindow" "office" "LMoonComplaintWindow$Office;") (List.mem_of_getElem? (i := 1) rfl)
  have w2 := hts (Cond.fieldLink RX9 107 "MoonComplaintWindow$Office" "pile" "LMoonComplaintWindow$Pile;") (List.mem_of_getElem? (i := 2) rfl)
  obtain ⟨hN, hN2, hKn, hK2, hCn, hC1, hC2, hn, hnt, hSK⟩ := id hOI
  refine lv_aload_n hx hb dX9_comfort_0 rfl (lv_at hl 0 rfl) ?_
  refine va_get (D := D) (ci := 9) (v := .ref ((B 0) 0)) (C := RX9) (T := TX9) (N := 6) hx hb hts i9 hown hK hP 0 rfl rfl 1 (by decide) w1 (fun _ h9 => h9) rfl dX9_comfort_1 ?_
  refine va_get (D := D) (ci := 3) (v := .ref ((B 0) 6)) (C := RX3) (T := TX3) (N := 4) hx hb hts i3 hown hK hP (14 * 0 + 0 + 11) (WIN_get (by decide) (by decide) rfl) rfl 3 (by decide) w2 (fun _ h9 => h9) rfl dX9_comfort_4 ?_
  refine rdV (As := []) (rest := []) ⟨hx, hb, hml, hown, hts⟩ (c_X5_sumAnsweredAnger l D T (B 0) (O 0) N hN hN2) (cwV 0 hts gX9_comfort_X5_sumAnsweredAnger rfl rfl rfl (by decide +kernel) ⟨Nat.le_of_ble_eq_true rfl, Nat.le_of_ble_eq_true rfl⟩) hK ((WIN_off (j := 0) (by decide) (O 0)).subP hP) 6 rfl rfl rfl hl.1 rfl (Nat.le_of_ble_eq_true rfl) ⟨Nat.zero_le _, Nat.zero_le _⟩ dX9_comfort_7 ?_
  refine endI (r := sumI (fun k => decide ((O 0) 8 k = 1)) (fun k => (O 0) 6 k) N 0 0) (by rfl) ?_
  exact hret ls _ dX9_comfort_10

set_option maxHeartbeats 4000000 in
set_option maxRecDepth 100000 in
theorem c_X9_likeliestSort (l : Launch) (D : va_G) (T : Nat → ClassId) (v : Nat → Nat) (B : Nat → Nat → Nat) (O : Nat → Nat → Nat → Int32) (g : CSt) (ln un nx pl : Nat) (f0 f1 f2 : Nat → Int32) (N : Nat) (K : Nat) (C : Nat) (nt : Nat) (hOI : OI (O 0) N K C nt) : Met l yX9_likeliestSort wsX9_likeliestSort ({ frames := 5, cells := 0, slots := 0, locals := 108 } : Room) (va_Pc [.ref (v 0)] (PR D T (WIN T v B O g ln un nx pl f0 f1 f2))) (QcRead (nI (likeC (jcC (O 0) C nt)).1)) 0 0 (fun _ => False) := by
  refine metR (cc := cX9_likeliestSort) (maxL := 5) (ty := .int) (by decide) rfl (by rfl) (Nat.le_of_ble_eq_true rfl) ?_
  intro p e s m args below meth c Q ls hx hb hml hown hts hP hK hl hret
  have hown : s.vm.findClass RX9 = some m.cls := hown
  have hl : lv_has ls 5 [(0, .ref (v 0))] := hl
  have i3 : ∀ w ∈ wsX30, w ∈ wsX9_likeliestSort := by decide +kernel
  have i9 : ∀ w ∈ wsX90, w ∈ wsX9_likeliestSort := by decide +kernel
  have w1 := hts (Cond.fieldLink RX9 19 "MoonComplaintWindow" "office" "LMoonComplaintWindow$Office;") (List.mem_of_getElem? (i := 1) rfl)
  have w2 := hts (Cond.fieldLink RX9 139 "MoonComplaintWindow$Office" "sky" "LMoonComplaintWindow$Sky;") (List.mem_of_getElem? (i := 2) rfl)
  have w3 := hts (Cond.fieldLink RX9 124 "MoonComplaintWindow$Office" "night" "I") (List.mem_of_getElem? (i := 3) rfl)
  obtain ⟨hN, hN2, hKn, hK2, hCn, hC1, hC2, hn, hnt, hSK⟩ := id hOI
  refine lv_iconst (v := 0) hx hb dX9_likeliestSort_0 (by decide) ?_
  refine lv_istore_n (lv' := [(1, .int (0)), (0, .ref (v 0))]) hx hb dX9_likeliestSort_1 rfl hl (by decide) rfl (fun ls hl => ?_)
  refine lv_aload_n hx hb dX9_likeliestSort_2 rfl (lv_at hl 1 rfl) ?_
  refine va_get (D := D) (ci := 9) (v := .ref ((B 0) 0)) (C := RX9) (T := TX9) (N := 6) hx hb hts i9 hown hK hP 0 rfl rfl 1 (by decide) w1 (fun _ h9 => h9) rfl dX9_likeliestSort_3 ?_
  refine va_get (D := D) (ci := 3) (v := .ref ((B 0) 1)) (C := RX3) (T := TX3) (N := 4) hx hb hts i3 hown hK hP (14 * 0 + 0 + 11) (WIN_get (by decide) (by decide) rfl) rfl 1 (by decide) w2 (fun _ h9 => h9) rfl dX9_likeliestSort_6 ?_
  refine lv_iconst (v := 0) hx hb dX9_likeliestSort_9 (by decide) ?_
  refine lv_aload_n hx hb dX9_likeliestSort_10 rfl (lv_at hl 1 rfl) ?_
  refine va_get (D := D) (ci := 9) (v := .ref ((B 0) 0)) (C := RX9) (T := TX9) (N := 6) hx hb hts i9 hown hK hP 0 rfl rfl 1 (by decide) w1 (fun _ h9 => h9) rfl dX9_likeliestSort_11 ?_
  refine va_get (D := D) (ci := 3) (v := .int ((O 0) 0 0)) (C := RX3) (T := TX3) (N := 4) hx hb hts i3 hown hK hP (14 * 0 + 0 + 11) (WIN_get (by decide) (by decide) rfl) rfl 0 (by decide) w3 (fun _ h9 => h9) rfl dX9_likeliestSort_14 ?_
  refine endI (r := nI nt) (hn) ?_
  refine rdV (As := [.int (0), .int (nI nt)]) (rest := []) ⟨hx, hb, hml, hown, hts⟩ (c_X6_countJustified l D T (B 0) (O 0) 0 nt C hCn hC1 hC2 (by omega) (by omega)) (cwV 2 hts gX9_likeliestSort_X6_countJustified rfl rfl rfl (by decide +kernel) ⟨Nat.le_of_ble_eq_true rfl, Nat.le_of_ble_eq_true rfl⟩) hK ((WIN_off (j := 0) (by decide) (O 0)).subP hP) 1 rfl rfl rfl hl.1 rfl (Nat.le_of_ble_eq_true rfl) ⟨Nat.zero_le _, Nat.zero_le _⟩ dX9_likeliestSort_17 ?_
  refine lv_istore_n (lv' := [(2, .int (cntI (fun j => justB 0 ((O 0) 0 1) ((O 0) 0 2) ((O 0) 0 3) j ((O 0) 1 (j % C))) (nt + 28 - nt) nt 0)), (1, .int (0)), (0, .ref (v 0))]) hx hb dX9_likeliestSort_20 rfl hl (by decide) rfl (fun ls hl => ?_)
  refine lv_iconst (v := 1) hx hb dX9_likeliestSort_21 (by decide) ?_
  refine lv_istore_n (lv' := [(3, .int (1)), (2, .int (cntI (fun j => justB 0 ((O 0) 0 1) ((O 0) 0 2) ((O 0) 0 3) j ((O 0) 1 (j % C))) (nt + 28 - nt) nt 0)), (1, .int (0)), (0, .ref (v 0))]) hx hb dX9_likeliestSort_22 rfl hl (by decide) rfl (fun ls hl => ?_)
  have L23 : ∀ (n9 : Nat) (q : Nat) (bb : Nat) (x : Int32), (4 - q) < n9 → (q ≤ 4) → (iter (fun q (b : Nat × Int32) => if b.2 < jcC (O 0) C nt q then (q, jcC (O 0) C nt q) else b) (4 - q) q (bb, x) = likeC (jcC (O 0) C nt)) → ∀ (ls : Array Slot), lv_has ls 5 [(3, .int (nI q)), (2, .int (x)), (1, .int (nI bb)), (0, .ref (v 0))] → W p l e ({ frames := 5, cells := 0, slots := 0, locals := 108 } : Room) s m args below meth c s.heap [] 0 0 Q (F0 m 23 ls []) := by
    intro n9
    induction n9 with
    | zero => intro q bb x hm9; exact absurd hm9 (Nat.not_lt_zero _)
    | succ n9 ih =>
      intro q bb x hm9 hq9 hR ls hl
      refine lv_iload_n hx hb dX9_likeliestSort_23 rfl (lv_at hl 0 rfl) ?_
      refine lv_iconst (v := 3) hx hb dX9_likeliestSort_24 (by decide) ?_
      refine lv_icmp_gt (tgt := 65) hx hb dX9_likeliestSort_25 (by decide) (fun c25 => ?_) (fun c25 => ?_)
      ·
        have c25 : 3 < q := (nI_ltI (a := 3) (b := q) (by omega) (by omega)).mp c25
        refine lv_iload_n hx hb dX9_likeliestSort_65 rfl (lv_at hl 2 rfl) ?_
        refine endI (r := nI (likeC (jcC (O 0) C nt)).1) (by rw [iter_done (by omega)] at hR; rw [← hR]) ?_
        exact hret ls _ dX9_likeliestSort_66
      ·
        have c25 : ¬ 3 < q := fun h9 => c25 ((nI_ltI (a := 3) (b := q) (by omega) (by omega)).mpr h9)
        refine lv_aload_n hx hb dX9_likeliestSort_28 rfl (lv_at hl 3 rfl) ?_
        refine va_get (D := D) (ci := 9) (v := .ref ((B 0) 0)) (C := RX9) (T := TX9) (N := 6) hx hb hts i9 hown hK hP 0 rfl rfl 1 (by decide) w1 (fun _ h9 => h9) rfl dX9_likeliestSort_29 ?_
        refine va_get (D := D) (ci := 3) (v := .ref ((B 0) 1)) (C := RX3) (T := TX3) (N := 4) hx hb hts i3 hown hK hP (14 * 0 + 0 + 11) (WIN_get (by decide) (by decide) rfl) rfl 1 (by decide) w2 (fun _ h9 => h9) rfl dX9_likeliestSort_32 ?_
        refine lv_iload_n hx hb dX9_likeliestSort_35 rfl (lv_at hl 0 rfl) ?_
        refine lv_aload_n hx hb dX9_likeliestSort_36 rfl (lv_at hl 3 rfl) ?_
        refine va_get (D := D) (ci := 9) (v := .ref ((B 0) 0)) (C := RX9) (T := TX9) (N := 6) hx hb hts i9 hown hK hP 0 rfl rfl 1 (by decide) w1 (fun _ h9 => h9) rfl dX9_likeliestSort_37 ?_
        refine va_get (D := D) (ci := 3) (v := .int ((O 0) 0 0)) (C := RX3) (T := TX3) (N := 4) hx hb hts i3 hown hK hP (14 * 0 + 0 + 11) (WIN_get (by decide) (by decide) rfl) rfl 0 (by decide) w3 (fun _ h9 => h9) rfl dX9_likeliestSort_40 ?_
        refine endI (r := nI nt) (hn) ?_
        refine rdV (As := [.int (nI q), .int (nI nt)]) (rest := []) ⟨hx, hb, hml, hown, hts⟩ (c_X6_countJustified l D T (B 0) (O 0) q nt C hCn hC1 hC2 (by omega) (by omega)) (cwV 2 hts gX9_likeliestSort_X6_countJustified rfl rfl rfl (by decide +kernel) ⟨Nat.le_of_ble_eq_true rfl, Nat.le_of_ble_eq_true rfl⟩) hK ((WIN_off (j := 0) (by decide) (O 0)).subP hP) 1 rfl rfl rfl hl.1 rfl (Nat.le_of_ble_eq_true rfl) ⟨Nat.zero_le _, Nat.zero_le _⟩ dX9_likeliestSort_43 ?_
        refine lv_istore (lv' := [(4, .int (cntI (fun j => justB q ((O 0) 0 1) ((O 0) 0 2) ((O 0) 0 3) j ((O 0) 1 (j % C))) (nt + 28 - nt) nt 0)), (3, .int (nI q)), (2, .int (x)), (1, .int (nI bb)), (0, .ref (v 0))]) hx hb dX9_likeliestSort_46 hl (by decide) rfl (fun ls hl => ?_)
        refine lv_iload hx hb dX9_likeliestSort_48 (lv_at hl 0 rfl) ?_
        refine lv_iload_n hx hb dX9_likeliestSort_50 rfl (lv_at hl 2 rfl) ?_
        refine lv_icmp_le (tgt := 59) hx hb dX9_likeliestSort_51 (by decide) (fun c51 => ?_) (fun c51 => ?_)
        ·
          have c51 : jcC (O 0) C nt q ≤ x := c51
          refine lv_iinc (v := nI (q + 1)) (lv' := [(3, .int (nI (q + 1))), (4, .int (cntI (fun j => justB q ((O 0) 0 1) ((O 0) 0 2) ((O 0) 0 3) j ((O 0) 1 (j % C))) (nt + 28 - nt) nt 0)), (2, .int (x)), (1, .int (nI bb)), (0, .ref (v 0))]) hx hb dX9_likeliestSort_59 hl (k := 1) rfl (nI_1 _) (by decide) rfl (fun ls hl => ?_)
          refine lv_goto (tgt := 23) hx hb dX9_likeliestSort_62 (by decide) ?_
          exact ih (q + 1) bb x (by omega) (by omega) (by rw [iter_step (by omega)] at hR; first | (rw [if_neg (Int32.not_lt.mpr c51)] at hR; exact hR) | (rw [if_pos (Int32.not_le.mp c51)] at hR; exact hR)) _ (lv_sub hl [0, 2, 3, 4] rfl)
        ·
          have c51 : ¬ jcC (O 0) C nt q ≤ x := c51
          refine lv_iload hx hb dX9_likeliestSort_54 (lv_at hl 0 rfl) ?_
          refine lv_istore_n (lv' := [(2, .int (cntI (fun j => justB q ((O 0) 0 1) ((O 0) 0 2) ((O 0) 0 3) j ((O 0) 1 (j % C))) (nt + 28 - nt) nt 0)), (4, .int (cntI (fun j => justB q ((O 0) 0 1) ((O 0) 0 2) ((O 0) 0 3) j ((O 0) 1 (j % C))) (nt + 28 - nt) nt 0)), (3, .int (nI q)), (1, .int (nI bb)), (0, .ref (v 0))]) hx hb dX9_likeliestSort_56 rfl hl (by decide) rfl (fun ls hl => ?_)
          refine lv_iload_n hx hb dX9_likeliestSort_57 rfl (lv_at hl 2 rfl) ?_
          refine lv_istore_n (lv' := [(1, .int (nI q)), (2, .int (cntI (fun j => justB q ((O 0) 0 1) ((O 0) 0 2) ((O 0) 0 3) j ((O 0) 1 (j % C))) (nt + 28 - nt) nt 0)), (4, .int (cntI (fun j => justB q ((O 0) 0 1) ((O 0) 0 2) ((O 0) 0 3) j ((O 0) 1 (j % C))) (nt + 28 - nt) nt 0)), (3, .int (nI q)), (0, .ref (v 0))]) hx hb dX9_likeliestSort_58 rfl hl (by decide) rfl (fun ls hl => ?_)
          refine lv_iinc (v := nI (q + 1)) (lv' := [(3, .int (nI (q + 1))), (1, .int (nI q)), (2, .int (cntI (fun j => justB q ((O 0) 0 1) ((O 0) 0 2) ((O 0) 0 3) j ((O 0) 1 (j % C))) (nt + 28 - nt) nt 0)), (4, .int (cntI (fun j => justB q ((O 0) 0 1) ((O 0) 0 2) ((O 0) 0 3) j ((O 0) 1 (j % C))) (nt + 28 - nt) nt 0)), (0, .ref (v 0))]) hx hb dX9_likeliestSort_59 hl (k := 3) rfl (nI_1 _) (by decide) rfl (fun ls hl => ?_)
          refine lv_goto (tgt := 23) hx hb dX9_likeliestSort_62 (by decide) ?_
          exact ih (q + 1) q (cntI (fun j => justB q ((O 0) 0 1) ((O 0) 0 2) ((O 0) 0 3) j ((O 0) 1 (j % C))) (nt + 28 - nt) nt 0) (by omega) (by omega) (by rw [iter_step (by omega)] at hR; first | (rw [if_neg (Int32.not_lt.mpr c51)] at hR; exact hR) | (rw [if_pos (Int32.not_le.mp c51)] at hR; exact hR)) _ (lv_sub hl [0, 2, 1, 4] rfl)
  exact L23 _ 1 0 (cntI (fun j => justB 0 ((O 0) 0 1) ((O 0) 0 2) ((O 0) 0 3) j ((O 0) 1 (j % C))) (nt + 28 - nt) nt 0) (Nat.lt_succ_self _) (by omega) (by rfl) _ (lv_sub hl [0, 1, 2, 3] rfl)
