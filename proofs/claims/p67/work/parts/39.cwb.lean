set_option maxHeartbeats 4000000 in
set_option maxRecDepth 100000 in
theorem c_X9_lightOf (l : Launch) (hl9 : l.stackTraces = false) (D : va_G) (T : Nat → ClassId) (aK aV : Nat → Nat) (v : Nat → Nat) (B : Nat → Nat → Nat) (O : Nat → Nat → Nat → Int32) (g : CSt) (ln un nx pl : Nat) (f0 f1 f2 : Nat → Int32) (z : Int32) (N : Nat) (K : Nat) (C : Nat) (nt : Nat) (hOI : OI (O 0) N K C nt) (sz : Nat) : vx_Met l yX9_lightOf wsX9_lightOf ({ frames := 8, cells := 1, slots := 6, locals := 132 } : Room) (va_Pc [.ref (v 0), .int (z)] (PSc D T aK aV (WIN T v B O g ln un nx pl f0 f1 f2) sz)) (va_Qi (fun r9 (_ : Unit) => (chkB (rg z 0 2000) "java/lang/IllegalArgumentException") = none ∧ r9 = (nI (lightN z.toNatClampNeg))) (fun _ t => QS D T (va_A (WIN T v B O g ln un nx pl f0 f1 f2) sz) (WIN T v B O g ln un nx pl f0 f1 f2) t) (va_A (WIN T v B O g ln un nx pl f0 f1 f2) sz)) (vx_X (fun (_ : Unit) => True) (fun E _ t => (chkB (rg z 0 2000) "java/lang/IllegalArgumentException") = some E ∧ QS D T (va_A (WIN T v B O g ln un nx pl f0 f1 f2) sz) (WIN T v B O g ln un nx pl f0 f1 f2) t) (va_A (WIN T v B O g ln un nx pl f0 f1 f2) sz)) 1 6 (va_A (WIN T v B O g ln un nx pl f0 f1 f2) sz) := by
  refine metXi (cc := cX9_lightOf) (maxL := 2) (ty := .int) (by decide) rfl (by rfl) (Nat.le_of_ble_eq_true rfl) ?_
  intro p e s m args below meth c Qc XC free ls A hx hb hml hown hts hC hP hK hD hA hS hl htab hlocks hfr hret hthr
  have hown : s.vm.findClass RX9 = some m.cls := hown
  have hl : lv_has ls 2 [(0, .ref (v 0)), (1, .int (z))] := hl
  obtain ⟨hN, hN2, hKn, hK2, hCn, hC1, hC2, hn, hnt, hSK⟩ := id hOI
  refine lv_iload_n hx hb dX9_lightOf_0 rfl (lv_at hl 1 rfl) ?_
  refine wxSv (As := [.int (z)]) (rest := []) ⟨hx, hb, hml, hown, hts⟩ (c_X9_checkNight l hl9 D T aK aV z _) (va_cwS 1 hts gX9_lightOf_X9_checkNight rfl rfl rfl (by decide +kernel) ⟨Nat.le_of_ble_eq_true rfl, Nat.le_of_ble_eq_true rfl⟩) (Foc.nil _) (Foc.nil _) hC hK hP hD hS hA rfl hl.1 rfl (Nat.le_of_ble_eq_true rfl) ⟨Nat.le_of_ble_eq_true rfl, Nat.le_of_ble_eq_true rfl⟩ dX9_lightOf_1 (fun E ce q9 H1 locs1 hE hP1 hD1 hS1 hce hcv hcl => vx_out (fun x hx => (htab x hx).elim) hlocks hce hcv hcl (fun t ht hv => hthr H1 locs1 E t (by first | exact hE | (simp only [orE, true_and, hE]; done) | (simp [orE, true_and, hE]; done)) hP1 hD1 hS1 hv (by rw [ht]; exact Nat.le_refl _) (fun q _ => by rw [ht])) (fun z hz => hfr _ (hS1.2.2 z hz)) (by decide) (by decide)) (fun H locs x1 hP hD hS => ?_)
  have hP : va_P D vwCl (WIN T v B O g ln un nx pl f0 f1 f2) H := hP
  have hD : va_D A (WIN T v B O g ln un nx pl f0 f1 f2) := hD
  have h1r := chkB_t x1
  obtain ⟨k, hk, hkz, hkc⟩ := rg_nat (n := 2000) (by decide) h1r
  rw [hkz] at hl
  have hl : lv_has ls 2 [(0, .ref (v 0)), (1, .int (nI k))] := hl
  refine lv_iload_n hx hb dX9_lightOf_4 rfl (lv_at hl 1 rfl) ?_
  refine rdT (As := [.int (nI k)]) (rest := []) ⟨hx, hb, hml, hown, hts⟩ (c_X6_lightIn l D T k (by first | omega | assumption | decide)) (va_cwS 1 hts gX9_lightOf_X6_lightIn rfl rfl rfl (by decide +kernel) ⟨Nat.le_of_ble_eq_true rfl, Nat.le_of_ble_eq_true rfl⟩) rfl hl.1 rfl (Nat.le_of_ble_eq_true rfl) ⟨Nat.le_of_ble_eq_true rfl, Nat.le_of_ble_eq_true rfl⟩ dX9_lightOf_5 ?_
  refine endI (r := nI (lightN z.toNatClampNeg)) (by rw [hkc]; done) ?_
  exact hret _ _ _ _ _ _ dX9_lightOf_8 (by first | rfl | (simp only [orE, x1]; done) | (simp only [orE, x1] <;> simp [chkB, x1]; done) | (simp [orE, chkB, x1]; done) | ((first | have x1x := Int32.not_lt.mp x1 | have x1x := Int32.not_le.mp x1 | have x1x := Int32.not_lt.mpr x1 | have x1x := Int32.not_le.mpr x1 | have x1x := x1); simp [orE, chkB, x1, x1x]; done)) hP hD hS (by decide) (by decide)

set_option maxHeartbeats 4000000 in
set_option maxRecDepth 100000 in
theorem c_X9_tideOf (l : Launch) (hl9 : l.stackTraces = false) (D : va_G) (T : Nat → ClassId) (aK aV : Nat → Nat) (v : Nat → Nat) (B : Nat → Nat → Nat) (O : Nat → Nat → Nat → Int32) (g : CSt) (ln un nx pl : Nat) (f0 f1 f2 : Nat → Int32) (z : Int32) (N : Nat) (K : Nat) (C : Nat) (nt : Nat) (hOI : OI (O 0) N K C nt) (sz : Nat) : vx_Met l yX9_tideOf wsX9_tideOf ({ frames := 8, cells := 1, slots := 6, locals := 132 } : Room) (va_Pc [.ref (v 0), .int (z)] (PSc D T aK aV (WIN T v B O g ln un nx pl f0 f1 f2) sz)) (va_Qi (fun r9 (_ : Unit) => (chkB (rg z 0 2000) "java/lang/IllegalArgumentException") = none ∧ r9 = (nI (tideN z.toNatClampNeg))) (fun _ t => QS D T (va_A (WIN T v B O g ln un nx pl f0 f1 f2) sz) (WIN T v B O g ln un nx pl f0 f1 f2) t) (va_A (WIN T v B O g ln un nx pl f0 f1 f2) sz)) (vx_X (fun (_ : Unit) => True) (fun E _ t => (chkB (rg z 0 2000) "java/lang/IllegalArgumentException") = some E ∧ QS D T (va_A (WIN T v B O g ln un nx pl f0 f1 f2) sz) (WIN T v B O g ln un nx pl f0 f1 f2) t) (va_A (WIN T v B O g ln un nx pl f0 f1 f2) sz)) 1 6 (va_A (WIN T v B O g ln un nx pl f0 f1 f2) sz) := by
  refine metXi (cc := cX9_tideOf) (maxL := 2) (ty := .int) (by decide) rfl (by rfl) (Nat.le_of_ble_eq_true rfl) ?_
  intro p e s m args below meth c Qc XC free ls A hx hb hml hown hts hC hP hK hD hA hS hl htab hlocks hfr hret hthr
  have hown : s.vm.findClass RX9 = some m.cls := hown
  have hl : lv_has ls 2 [(0, .ref (v 0)), (1, .int (z))] := hl
  obtain ⟨hN, hN2, hKn, hK2, hCn, hC1, hC2, hn, hnt, hSK⟩ := id hOI
  refine lv_iload_n hx hb dX9_tideOf_0 rfl (lv_at hl 1 rfl) ?_
  refine wxSv (As := [.int (z)]) (rest := []) ⟨hx, hb, hml, hown, hts⟩ (c_X9_checkNight l hl9 D T aK aV z _) (va_cwS 1 hts gX9_tideOf_X9_checkNight rfl rfl rfl (by decide +kernel) ⟨Nat.le_of_ble_eq_true rfl, Nat.le_of_ble_eq_true rfl⟩) (Foc.nil _) (Foc.nil _) hC hK hP hD hS hA rfl hl.1 rfl (Nat.le_of_ble_eq_true rfl) ⟨Nat.le_of_ble_eq_true rfl, Nat.le_of_ble_eq_true rfl⟩ dX9_tideOf_1 (fun E ce q9 H1 locs1 hE hP1 hD1 hS1 hce hcv hcl => vx_out (fun x hx => (htab x hx).elim) hlocks hce hcv hcl (fun t ht hv => hthr H1 locs1 E t (by first | exact hE | (simp only [orE, true_and, hE]; done) | (simp [orE, true_and, hE]; done)) hP1 hD1 hS1 hv (by rw [ht]; exact Nat.le_refl _) (fun q _ => by rw [ht])) (fun z hz => hfr _ (hS1.2.2 z hz)) (by decide) (by decide)) (fun H locs x1 hP hD hS => ?_)
  have hP : va_P D vwCl (WIN T v B O g ln un nx pl f0 f1 f2) H := hP
  have hD : va_D A (WIN T v B O g ln un nx pl f0 f1 f2) := hD
  have h1r := chkB_t x1
  obtain ⟨k, hk, hkz, hkc⟩ := rg_nat (n := 2000) (by decide) h1r
  rw [hkz] at hl
  have hl : lv_has ls 2 [(0, .ref (v 0)), (1, .int (nI k))] := hl
  refine lv_iload_n hx hb dX9_tideOf_4 rfl (lv_at hl 1 rfl) ?_
  refine rdT (As := [.int (nI k)]) (rest := []) ⟨hx, hb, hml, hown, hts⟩ (c_X6_tideIn l D T k (by first | omega | assumption | decide)) (va_cwS 1 hts gX9_tideOf_X6_tideIn rfl rfl rfl (by decide +kernel) ⟨Nat.le_of_ble_eq_true rfl, Nat.le_of_ble_eq_true rfl⟩) rfl hl.1 rfl (Nat.le_of_ble_eq_true rfl) ⟨Nat.le_of_ble_eq_true rfl, Nat.le_of_ble_eq_true rfl⟩ dX9_tideOf_5 ?_
  refine endI (r := nI (tideN z.toNatClampNeg)) (by rw [hkc]; done) ?_
  exact hret _ _ _ _ _ _ dX9_tideOf_8 (by first | rfl | (simp only [orE, x1]; done) | (simp only [orE, x1] <;> simp [chkB, x1]; done) | (simp [orE, chkB, x1]; done) | ((first | have x1x := Int32.not_lt.mp x1 | have x1x := Int32.not_le.mp x1 | have x1x := Int32.not_lt.mpr x1 | have x1x := Int32.not_le.mpr x1 | have x1x := x1); simp [orE, chkB, x1, x1x]; done)) hP hD hS (by decide) (by decide)

set_option maxHeartbeats 4000000 in
set_option maxRecDepth 100000 in
theorem c_X9_cloudOf (l : Launch) (hl9 : l.stackTraces = false) (D : va_G) (T : Nat → ClassId) (aK aV : Nat → Nat) (v : Nat → Nat) (B : Nat → Nat → Nat) (O : Nat → Nat → Nat → Int32) (g : CSt) (ln un nx pl : Nat) (f0 f1 f2 : Nat → Int32) (z : Int32) (N : Nat) (K : Nat) (C : Nat) (nt : Nat) (hOI : OI (O 0) N K C nt) (sz : Nat) : vx_Met l yX9_cloudOf wsX9_cloudOf ({ frames := 8, cells := 1, slots := 6, locals := 132 } : Room) (va_Pc [.ref (v 0), .int (z)] (PSc D T aK aV (WIN T v B O g ln un nx pl f0 f1 f2) sz)) (va_Qi (fun r9 (_ : Unit) => (chkB (rg z 0 2000) "java/lang/IllegalArgumentException") = none ∧ r9 = ((O 0) 1 (z.toNatClampNeg % C))) (fun _ t => QS D T (va_A (WIN T v B O g ln un nx pl f0 f1 f2) sz) (WIN T v B O g ln un nx pl f0 f1 f2) t) (va_A (WIN T v B O g ln un nx pl f0 f1 f2) sz)) (vx_X (fun (_ : Unit) => True) (fun E _ t => (chkB (rg z 0 2000) "java/lang/IllegalArgumentException") = some E ∧ QS D T (va_A (WIN T v B O g ln un nx pl f0 f1 f2) sz) (WIN T v B O g ln un nx pl f0 f1 f2) t) (va_A (WIN T v B O g ln un nx pl f0 f1 f2) sz)) 1 6 (va_A (WIN T v B O g ln un nx pl f0 f1 f2) sz) := by
  refine metXi (cc := cX9_cloudOf) (maxL := 2) (ty := .int) (by decide) rfl (by rfl) (Nat.le_of_ble_eq_true rfl) ?_
  intro p e s m args below meth c Qc XC free ls A hx hb hml hown hts hC hP hK hD hA hS hl htab hlocks hfr hret hthr
  have hown : s.vm.findClass RX9 = some m.cls := hown
  have hl : lv_has ls 2 [(0, .ref (v 0)), (1, .int (z))] := hl
  have i3 : ∀ w ∈ wsX30, w ∈ wsX9_cloudOf := by decide +kernel
  have i9 : ∀ w ∈ wsX90, w ∈ wsX9_cloudOf := by decide +kernel
  have w1 := hts (Cond.fieldLink RX9 19 "MoonComplaintWindow" "office" "LMoonComplaintWindow$Office;") (List.mem_of_getElem? (i := 1) rfl)
  have w2 := hts (Cond.fieldLink RX9 139 "MoonComplaintWindow$Office" "sky" "LMoonComplaintWindow$Sky;") (List.mem_of_getElem? (i := 2) rfl)
  obtain ⟨hN, hN2, hKn, hK2, hCn, hC1, hC2, hn, hnt, hSK⟩ := id hOI
  refine lv_iload_n hx hb dX9_cloudOf_0 rfl (lv_at hl 1 rfl) ?_
  refine wxSv (As := [.int (z)]) (rest := []) ⟨hx, hb, hml, hown, hts⟩ (c_X9_checkNight l hl9 D T aK aV z _) (va_cwS 1 hts gX9_cloudOf_X9_checkNight rfl rfl rfl (by decide +kernel) ⟨Nat.le_of_ble_eq_true rfl, Nat.le_of_ble_eq_true rfl⟩) (Foc.nil _) (Foc.nil _) hC hK hP hD hS hA rfl hl.1 rfl (Nat.le_of_ble_eq_true rfl) ⟨Nat.le_of_ble_eq_true rfl, Nat.le_of_ble_eq_true rfl⟩ dX9_cloudOf_1 (fun E ce q9 H1 locs1 hE hP1 hD1 hS1 hce hcv hcl => vx_out (fun x hx => (htab x hx).elim) hlocks hce hcv hcl (fun t ht hv => hthr H1 locs1 E t (by first | exact hE | (simp only [orE, true_and, hE]; done) | (simp [orE, true_and, hE]; done)) hP1 hD1 hS1 hv (by rw [ht]; exact Nat.le_refl _) (fun q _ => by rw [ht])) (fun z hz => hfr _ (hS1.2.2 z hz)) (by decide) (by decide)) (fun H locs x1 hP hD hS => ?_)
  have hP : va_P D vwCl (WIN T v B O g ln un nx pl f0 f1 f2) H := hP
  have hD : va_D A (WIN T v B O g ln un nx pl f0 f1 f2) := hD
  have h1r := chkB_t x1
  obtain ⟨k, hk, hkz, hkc⟩ := rg_nat (n := 2000) (by decide) h1r
  rw [hkz] at hl
  have hl : lv_has ls 2 [(0, .ref (v 0)), (1, .int (nI k))] := hl
  refine lv_aload_n hx hb dX9_cloudOf_4 rfl (lv_at hl 0 rfl) ?_
  refine va_get (D := D) (ci := 9) (v := .ref ((B 0) 0)) (C := RX9) (T := TX9) (N := 6) hx hb hts i9 hown hK hP 0 rfl rfl 1 (by decide) w1 (fun _ h9 => h9) rfl dX9_cloudOf_5 ?_
  refine va_get (D := D) (ci := 3) (v := .ref ((B 0) 1)) (C := RX3) (T := TX3) (N := 4) hx hb hts i3 hown hK hP (14 * 0 + 0 + 11) (WIN_get (by decide) (by decide) rfl) rfl 1 (by decide) w2 (fun _ h9 => h9) rfl dX9_cloudOf_8 ?_
  refine lv_iload_n hx hb dX9_cloudOf_11 rfl (lv_at hl 1 rfl) ?_
  refine rdV (As := [.int (nI k)]) (rest := []) ⟨hx, hb, hml, hown, hts⟩ (c_X6_cloudIn l D T (B 0) (O 0) k C hCn hC1 hC2 (by omega)) (cwV 1 hts gX9_cloudOf_X6_cloudIn rfl rfl rfl (by decide +kernel) ⟨Nat.le_of_ble_eq_true rfl, Nat.le_of_ble_eq_true rfl⟩) hK ((WIN_off (j := 0) (by decide) (O 0)).subP hP) 1 rfl rfl rfl hl.1 rfl (Nat.le_of_ble_eq_true rfl) ⟨Nat.le_of_ble_eq_true rfl, Nat.le_of_ble_eq_true rfl⟩ dX9_cloudOf_12 ?_
  refine endI (r := (O 0) 1 (z.toNatClampNeg % C)) (by rw [hkc]; done) ?_
  exact hret _ _ _ _ _ _ dX9_cloudOf_15 (by first | rfl | (simp only [orE, x1]; done) | (simp only [orE, x1] <;> simp [chkB, x1]; done) | (simp [orE, chkB, x1]; done) | ((first | have x1x := Int32.not_lt.mp x1 | have x1x := Int32.not_le.mp x1 | have x1x := Int32.not_lt.mpr x1 | have x1x := Int32.not_le.mpr x1 | have x1x := x1); simp [orE, chkB, x1, x1x]; done)) hP hD hS (by decide) (by decide)

set_option maxHeartbeats 4000000 in
set_option maxRecDepth 100000 in
theorem c_X9_visibleLight (l : Launch) (hl9 : l.stackTraces = false) (D : va_G) (T : Nat → ClassId) (aK aV : Nat → Nat) (v : Nat → Nat) (B : Nat → Nat → Nat) (O : Nat → Nat → Nat → Int32) (g : CSt) (ln un nx pl : Nat) (f0 f1 f2 : Nat → Int32) (z : Int32) (N : Nat) (K : Nat) (C : Nat) (nt : Nat) (hOI : OI (O 0) N K C nt) (sz : Nat) : vx_Met l yX9_visibleLight wsX9_visibleLight ({ frames := 8, cells := 1, slots := 6, locals := 132 } : Room) (va_Pc [.ref (v 0), .int (z)] (PSc D T aK aV (WIN T v B O g ln un nx pl f0 f1 f2) sz)) (va_Qi (fun r9 (_ : Unit) => (chkB (rg z 0 2000) "java/lang/IllegalArgumentException") = none ∧ r9 = (visI z.toNatClampNeg ((O 0) 1 (z.toNatClampNeg % C)))) (fun _ t => QS D T (va_A (WIN T v B O g ln un nx pl f0 f1 f2) sz) (WIN T v B O g ln un nx pl f0 f1 f2) t) (va_A (WIN T v B O g ln un nx pl f0 f1 f2) sz)) (vx_X (fun (_ : Unit) => True) (fun E _ t => (chkB (rg z 0 2000) "java/lang/IllegalArgumentException") = some E ∧ QS D T (va_A (WIN T v B O g ln un nx pl f0 f1 f2) sz) (WIN T v B O g ln un nx pl f0 f1 f2) t) (va_A (WIN T v B O g ln un nx pl f0 f1 f2) sz)) 1 6 (va_A (WIN T v B O g ln un nx pl f0 f1 f2) sz) := by
  refine metXi (cc := cX9_visibleLight) (maxL := 2) (ty := .int) (by decide) rfl (by rfl) (Nat.le_of_ble_eq_true rfl) ?_
  intro p e s m args below meth c Qc XC free ls A hx hb hml hown hts hC hP hK hD hA hS hl htab hlocks hfr hret hthr
  have hown : s.vm.findClass RX9 = some m.cls := hown
  have hl : lv_has ls 2 [(0, .ref (v 0)), (1, .int (z))] := hl
  have i3 : ∀ w ∈ wsX30, w ∈ wsX9_visibleLight := by decide +kernel
  have i9 : ∀ w ∈ wsX90, w ∈ wsX9_visibleLight := by decide +kernel
  have w1 := hts (Cond.fieldLink RX9 19 "MoonComplaintWindow" "office" "LMoonComplaintWindow$Office;") (List.mem_of_getElem? (i := 1) rfl)
  have w2 := hts (Cond.fieldLink RX9 139 "MoonComplaintWindow$Office" "sky" "LMoonComplaintWindow$Sky;") (List.mem_of_getElem? (i := 2) rfl)
  obtain ⟨hN, hN2, hKn, hK2, hCn, hC1, hC2, hn, hnt, hSK⟩ := id hOI
  refine lv_iload_n hx hb dX9_visibleLight_0 rfl (lv_at hl 1 rfl) ?_
  refine wxSv (As := [.int (z)]) (rest := []) ⟨hx, hb, hml, hown, hts⟩ (c_X9_checkNight l hl9 D T aK aV z _) (va_cwS 1 hts gX9_visibleLight_X9_checkNight rfl rfl rfl (by decide +kernel) ⟨Nat.le_of_ble_eq_true rfl, Nat.le_of_ble_eq_true rfl⟩) (Foc.nil _) (Foc.nil _) hC hK hP hD hS hA rfl hl.1 rfl (Nat.le_of_ble_eq_true rfl) ⟨Nat.le_of_ble_eq_true rfl, Nat.le_of_ble_eq_true rfl⟩ dX9_visibleLight_1 (fun E ce q9 H1 locs1 hE hP1 hD1 hS1 hce hcv hcl => vx_out (fun x hx => (htab x hx).elim) hlocks hce hcv hcl (fun t ht hv => hthr H1 locs1 E t (by first | exact hE | (simp only [orE, true_and, hE]; done) | (simp [orE, true_and, hE]; done)) hP1 hD1 hS1 hv (by rw [ht]; exact Nat.le_refl _) (fun q _ => by rw [ht])) (fun z hz => hfr _ (hS1.2.2 z hz)) (by decide) (by decide)) (fun H locs x1 hP hD hS => ?_)
  have hP : va_P D vwCl (WIN T v B O g ln un nx pl f0 f1 f2) H := hP
  have hD : va_D A (WIN T v B O g ln un nx pl f0 f1 f2) := hD
  have h1r := chkB_t x1
  obtain ⟨k, hk, hkz, hkc⟩ := rg_nat (n := 2000) (by decide) h1r
  rw [hkz] at hl
  have hl : lv_has ls 2 [(0, .ref (v 0)), (1, .int (nI k))] := hl
  refine lv_aload_n hx hb dX9_visibleLight_4 rfl (lv_at hl 0 rfl) ?_
  refine va_get (D := D) (ci := 9) (v := .ref ((B 0) 0)) (C := RX9) (T := TX9) (N := 6) hx hb hts i9 hown hK hP 0 rfl rfl 1 (by decide) w1 (fun _ h9 => h9) rfl dX9_visibleLight_5 ?_
  refine va_get (D := D) (ci := 3) (v := .ref ((B 0) 1)) (C := RX3) (T := TX3) (N := 4) hx hb hts i3 hown hK hP (14 * 0 + 0 + 11) (WIN_get (by decide) (by decide) rfl) rfl 1 (by decide) w2 (fun _ h9 => h9) rfl dX9_visibleLight_8 ?_
  refine lv_iload_n hx hb dX9_visibleLight_11 rfl (lv_at hl 1 rfl) ?_
  refine rdV (As := [.int (nI k)]) (rest := []) ⟨hx, hb, hml, hown, hts⟩ (c_X6_visibleIn l D T (B 0) (O 0) k C hCn hC1 hC2 (by omega)) (cwV 1 hts gX9_visibleLight_X6_visibleIn rfl rfl rfl (by decide +kernel) ⟨Nat.le_of_ble_eq_true rfl, Nat.le_of_ble_eq_true rfl⟩) hK ((WIN_off (j := 0) (by decide) (O 0)).subP hP) 1 rfl rfl rfl hl.1 rfl (Nat.le_of_ble_eq_true rfl) ⟨Nat.le_of_ble_eq_true rfl, Nat.le_of_ble_eq_true rfl⟩ dX9_visibleLight_12 ?_
  refine endI (r := visI z.toNatClampNeg ((O 0) 1 (z.toNatClampNeg % C))) (by rw [hkc]; done) ?_
  exact hret _ _ _ _ _ _ dX9_visibleLight_15 (by first | rfl | (simp only [orE, x1]; done) | (simp only [orE, x1] <;> simp [chkB, x1]; done) | (simp [orE, chkB, x1]; done) | ((first | have x1x := Int32.not_lt.mp x1 | have x1x := Int32.not_le.mp x1 | have x1x := Int32.not_lt.mpr x1 | have x1x := Int32.not_le.mpr x1 | have x1x := x1); simp [orE, chkB, x1, x1x]; done)) hP hD hS (by decide) (by decide)

set_option maxHeartbeats 4000000 in
set_option maxRecDepth 100000 in
theorem c_X9_isJustified (l : Launch) (hl9 : l.stackTraces = false) (D : va_G) (T : Nat → ClassId) (aK aV : Nat → Nat) (v : Nat → Nat) (B : Nat → Nat → Nat) (O : Nat → Nat → Nat → Int32) (g : CSt) (ln un nx pl : Nat) (f0 f1 f2 : Nat → Int32) (z : Int32) (z1 : Int32) (N : Nat) (K : Nat) (C : Nat) (nt : Nat) (hOI : OI (O 0) N K C nt) (sz : Nat) : vx_Met l yX9_isJustified wsX9_isJustified ({ frames := 8, cells := 2, slots := 12, locals := 132 } : Room) (va_Pc [.ref (v 0), .int (z), .int (z1)] (PSc D T aK aV (WIN T v B O g ln un nx pl f0 f1 f2) sz)) (va_Qi (fun r9 (_ : Unit) => (orE (chkB (rg z 0 3) "java/lang/IllegalArgumentException") (chkB (rg z1 0 2000) "java/lang/IllegalArgumentException")) = none ∧ r9 = (bI (justB z.toNatClampNeg ((O 0) 0 1) ((O 0) 0 2) ((O 0) 0 3) z1.toNatClampNeg ((O 0) 1 (z1.toNatClampNeg % C))))) (fun _ t => QS D T (va_A (WIN T v B O g ln un nx pl f0 f1 f2) sz) (WIN T v B O g ln un nx pl f0 f1 f2) t) (va_A (WIN T v B O g ln un nx pl f0 f1 f2) sz)) (vx_X (fun (_ : Unit) => True) (fun E _ t => (orE (chkB (rg z 0 3) "java/lang/IllegalArgumentException") (chkB (rg z1 0 2000) "java/lang/IllegalArgumentException")) = some E ∧ QS D T (va_A (WIN T v B O g ln un nx pl f0 f1 f2) sz) (WIN T v B O g ln un nx pl f0 f1 f2) t) (va_A (WIN T v B O g ln un nx pl f0 f1 f2) sz)) 2 12 (va_A (WIN T v B O g ln un nx pl f0 f1 f2) sz) := by
  refine metXi (cc := cX9_isJustified) (maxL := 3) (ty := .boolean) (by decide) rfl (by exact bI_nb _) (Nat.le_of_ble_eq_true rfl) ?_
  intro p e s m args below meth c Qc XC free ls A hx hb hml hown hts hC hP hK hD hA hS hl htab hlocks hfr hret hthr
  have hown : s.vm.findClass RX9 = some m.cls := hown
  have hl : lv_has ls 3 [(0, .ref (v 0)), (1, .int (z)), (2, .int (z1))] := hl
  have i3 : ∀ w ∈ wsX30, w ∈ wsX9_isJustified := by decide +kernel
  have i9 : ∀ w ∈ wsX90, w ∈ wsX9_isJustified := by decide +kernel
  have w1 := hts (Cond.fieldLink RX9 19 "MoonComplaintWindow" "office" "LMoonComplaintWindow$Office;") (List.mem_of_getElem? (i := 1) rfl)
  have w2 := hts (Cond.fieldLink RX9 139 "MoonComplaintWindow$Office" "sky" "LMoonComplaintWindow$Sky;") (List.mem_of_getElem? (i := 2) rfl)
  obtain ⟨hN, hN2, hKn, hK2, hCn, hC1, hC2, hn, hnt, hSK⟩ := id hOI
  refine lv_iload_n hx hb dX9_isJustified_0 rfl (lv_at hl 1 rfl) ?_
  refine wxSv (As := [.int (z)]) (rest := []) ⟨hx, hb, hml, hown, hts⟩ (c_X9_checkSort l hl9 D T aK aV z _) (va_cwS 1 hts gX9_isJustified_X9_checkSort rfl rfl rfl (by decide +kernel) ⟨Nat.le_of_ble_eq_true rfl, Nat.le_of_ble_eq_true rfl⟩) (Foc.nil _) (Foc.nil _) hC hK hP hD hS hA rfl hl.1 rfl (Nat.le_of_ble_eq_true rfl) ⟨Nat.le_of_ble_eq_true rfl, Nat.le_of_ble_eq_true rfl⟩ dX9_isJustified_1 (fun E ce q9 H1 locs1 hE hP1 hD1 hS1 hce hcv hcl => vx_out (fun x hx => (htab x hx).elim) hlocks hce hcv hcl (fun t ht hv => hthr H1 locs1 E t (by first | exact hE | (simp only [orE, true_and, hE]; done) | (simp [orE, true_and, hE]; done)) hP1 hD1 hS1 hv (by rw [ht]; exact Nat.le_refl _) (fun q _ => by rw [ht])) (fun z hz => hfr _ (hS1.2.2 z hz)) (by decide) (by decide)) (fun H locs x1 hP hD hS => ?_)
  have hP : va_P D vwCl (WIN T v B O g ln un nx pl f0 f1 f2) H := hP
  have hD : va_D A (WIN T v B O g ln un nx pl f0 f1 f2) := hD
  have h1r := chkB_t x1
  obtain ⟨q, hq, hqz, hqc⟩ := rg_sort h1r
  rw [hqz] at hl
  have hl : lv_has ls 3 [(0, .ref (v 0)), (1, .int (nI q)), (2, .int (z1))] := hl
  refine lv_iload_n hx hb dX9_isJustified_4 rfl (lv_at hl 2 rfl) ?_
  refine wxSv (As := [.int (z1)]) (rest := []) ⟨hx, hb, hml, hown, hts⟩ (c_X9_checkNight l hl9 D T aK aV z1 _) (va_cwS 1 hts gX9_isJustified_X9_checkNight rfl rfl rfl (by decide +kernel) ⟨Nat.le_of_ble_eq_true rfl, Nat.le_of_ble_eq_true rfl⟩) (Foc.nil _) (Foc.nil _) hC hK hP hD hS hA rfl hl.1 rfl (Nat.le_of_ble_eq_true rfl) ⟨Nat.le_of_ble_eq_true rfl, Nat.le_of_ble_eq_true rfl⟩ dX9_isJustified_5 (fun E ce q9 H1 locs1 hE hP1 hD1 hS1 hce hcv hcl => vx_out (fun x hx => (htab x hx).elim) hlocks hce hcv hcl (fun t ht hv => hthr H1 locs1 E t (by first | exact hE | (simp only [orE, x1, hE]; done) | (simp [orE, x1, hE]; done)) hP1 hD1 hS1 hv (by rw [ht]; exact Nat.le_refl _) (fun q _ => by rw [ht])) (fun z hz => hfr _ (hS1.2.2 z hz)) (by decide) (by decide)) (fun H locs x5 hP hD hS => ?_)
  have hP : va_P D vwCl (WIN T v B O g ln un nx pl f0 f1 f2) H := hP
  have hD : va_D A (WIN T v B O g ln un nx pl f0 f1 f2) := hD
  have h5r := chkB_t x5
  obtain ⟨k, hk, hkz, hkc⟩ := rg_nat (n := 2000) (by decide) h5r
  rw [hkz] at hl
  have hl : lv_has ls 3 [(0, .ref (v 0)), (1, .int (nI q)), (2, .int (nI k))] := hl
  refine lv_aload_n hx hb dX9_isJustified_8 rfl (lv_at hl 0 rfl) ?_
  refine va_get (D := D) (ci := 9) (v := .ref ((B 0) 0)) (C := RX9) (T := TX9) (N := 6) hx hb hts i9 hown hK hP 0 rfl rfl 1 (by decide) w1 (fun _ h9 => h9) rfl dX9_isJustified_9 ?_
  refine va_get (D := D) (ci := 3) (v := .ref ((B 0) 1)) (C := RX3) (T := TX3) (N := 4) hx hb hts i3 hown hK hP (14 * 0 + 0 + 11) (WIN_get (by decide) (by decide) rfl) rfl 1 (by decide) w2 (fun _ h9 => h9) rfl dX9_isJustified_12 ?_
  refine lv_iload_n hx hb dX9_isJustified_15 rfl (lv_at hl 1 rfl) ?_
  refine lv_iload_n hx hb dX9_isJustified_16 rfl (lv_at hl 2 rfl) ?_
  refine rdV (As := [.int (nI q), .int (nI k)]) (rest := []) ⟨hx, hb, hml, hown, hts⟩ (c_X6_justifies l D T (B 0) (O 0) q k C hCn hC1 hC2 (by omega) (by omega)) (cwV 2 hts gX9_isJustified_X6_justifies rfl rfl rfl (by decide +kernel) ⟨Nat.le_of_ble_eq_true rfl, Nat.le_of_ble_eq_true rfl⟩) hK ((WIN_off (j := 0) (by decide) (O 0)).subP hP) 1 rfl rfl rfl hl.1 rfl (Nat.le_of_ble_eq_true rfl) ⟨Nat.le_of_ble_eq_true rfl, Nat.le_of_ble_eq_true rfl⟩ dX9_isJustified_17 ?_
  refine endI (r := bI (justB z.toNatClampNeg ((O 0) 0 1) ((O 0) 0 2) ((O 0) 0 3) z1.toNatClampNeg ((O 0) 1 (z1.toNatClampNeg % C)))) (by rw [hqc, hkc]; done) ?_
  exact hret _ _ _ _ _ _ dX9_isJustified_20 (by first | rfl | (simp only [orE, x1, x5]; done) | (simp only [orE, x1, x5] <;> simp [chkB, x1, x5]; done) | (simp [orE, chkB, x1, x5]; done) | ((first | have x1x := Int32.not_lt.mp x1 | have x1x := Int32.not_le.mp x1 | have x1x := Int32.not_lt.mpr x1 | have x1x := Int32.not_le.mpr x1 | have x1x := x1); (first | have x5x := Int32.not_lt.mp x5 | have x5x := Int32.not_le.mp x5 | have x5x := Int32.not_lt.mpr x5 | have x5x := Int32.not_le.mpr x5 | have x5x := x5); simp [orE, chkB, x1, x5, x1x, x5x]; done)) hP hD hS (by decide) (by decide)

set_option maxHeartbeats 4000000 in
set_option maxRecDepth 100000 in
theorem c_X9_nextJustified (l : Launch) (hl9 : l.stackTraces = false) (D : va_G) (T : Nat → ClassId) (aK aV : Nat → Nat) (v : Nat → Nat) (B : Nat → Nat → Nat) (O : Nat → Nat → Nat → Int32) (g : CSt) (ln un nx pl : Nat) (f0 f1 f2 : Nat → Int32) (z : Int32) (N : Nat) (K : Nat) (C : Nat) (nt : Nat) (hOI : OI (O 0) N K C nt) (sz : Nat) : vx_Met l yX9_nextJustified wsX9_nextJustified ({ frames := 8, cells := 2, slots := 12, locals := 132 } : Room) (va_Pc [.ref (v 0), .int (z)] (PSc D T aK aV (WIN T v B O g ln un nx pl f0 f1 f2) sz)) (va_Qi (fun r9 (_ : Unit) => (orE (chkB (rg z 0 3) "java/lang/IllegalArgumentException") (chkB ((nextC (O 0) C nt z.toNatClampNeg).isSome) "java/util/NoSuchElementException")) = none ∧ r9 = ((nextC (O 0) C nt z.toNatClampNeg).elim 0 nI)) (fun _ t => QS D T (va_A (WIN T v B O g ln un nx pl f0 f1 f2) sz) (WIN T v B O g ln un nx pl f0 f1 f2) t) (va_A (WIN T v B O g ln un nx pl f0 f1 f2) sz)) (vx_X (fun (_ : Unit) => True) (fun E _ t => (orE (chkB (rg z 0 3) "java/lang/IllegalArgumentException") (chkB ((nextC (O 0) C nt z.toNatClampNeg).isSome) "java/util/NoSuchElementException")) = some E ∧ QS D T (va_A (WIN T v B O g ln un nx pl f0 f1 f2) sz) (WIN T v B O g ln un nx pl f0 f1 f2) t) (va_A (WIN T v B O g ln un nx pl f0 f1 f2) sz)) 2 12 (va_A (WIN T v B O g ln un nx pl f0 f1 f2) sz) := by
  refine metXi (cc := cX9_nextJustified) (maxL := 3) (ty := .int) (by decide) rfl (by rfl) (Nat.le_of_ble_eq_true rfl) ?_
  intro p e s m args below meth c Qc XC free ls A hx hb hml hown hts hC hP hK hD hA hS hl htab hlocks hfr hret hthr
  have hown : s.vm.findClass RX9 = some m.cls := hown
  have hl : lv_has ls 3 [(0, .ref (v 0)), (1, .int (z))] := hl
  have i3 : ∀ w ∈ wsX30, w ∈ wsX9_nextJustified := by decide +kernel
  have i9 : ∀ w ∈ wsX90, w ∈ wsX9_nextJustified := by decide +kernel
  have w1 := hts (Cond.classLink RX9 116 "java/util/NoSuchElementException") (List.mem_of_getElem? (i := 1) rfl)
  have w2 := hts (Cond.initialized "java/util/NoSuchElementException") (List.mem_of_getElem? (i := 2) rfl)
  have w3 := hts (Cond.fieldLink RX9 19 "MoonComplaintWindow" "office" "LMoonComplaintWindow$Office;") (List.mem_of_getElem? (i := 3) rfl)
  have w4 := hts (Cond.fieldLink RX9 124 "MoonComplaintWindow$Office" "night" "I") (List.mem_of_getElem? (i := 4) rfl)
  have w5 := hts (Cond.fieldLink RX9 139 "MoonComplaintWindow$Office" "sky" "LMoonComplaintWindow$Sky;") (List.mem_of_getElem? (i := 5) rfl)
  obtain ⟨hN, hN2, hKn, hK2, hCn, hC1, hC2, hn, hnt, hSK⟩ := id hOI
  refine lv_iload_n hx hb dX9_nextJustified_0 rfl (lv_at hl 1 rfl) ?_
  refine wxSv (As := [.int (z)]) (rest := []) ⟨hx, hb, hml, hown, hts⟩ (c_X9_checkSort l hl9 D T aK aV z _) (va_cwS 1 hts gX9_nextJustified_X9_checkSort rfl rfl rfl (by decide +kernel) ⟨Nat.le_of_ble_eq_true rfl, Nat.le_of_ble_eq_true rfl⟩) (Foc.nil _) (Foc.nil _) hC hK hP hD hS hA rfl hl.1 rfl (Nat.le_of_ble_eq_true rfl) ⟨Nat.le_of_ble_eq_true rfl, Nat.le_of_ble_eq_true rfl⟩ dX9_nextJustified_1 (fun E ce q9 H1 locs1 hE hP1 hD1 hS1 hce hcv hcl => vx_out (fun x hx => (htab x hx).elim) hlocks hce hcv hcl (fun t ht hv => hthr H1 locs1 E t (by first | exact hE | (simp only [orE, true_and, hE]; done) | (simp [orE, true_and, hE]; done)) hP1 hD1 hS1 hv (by rw [ht]; exact Nat.le_refl _) (fun q _ => by rw [ht])) (fun z hz => hfr _ (hS1.2.2 z hz)) (by decide) (by decide)) (fun H locs x1 hP hD hS => ?_)
  have hP : va_P D vwCl (WIN T v B O g ln un nx pl f0 f1 f2) H := hP
  have hD : va_D A (WIN T v B O g ln un nx pl f0 f1 f2) := hD
  have h1r := chkB_t x1
  obtain ⟨q, hq, hqz, hqc⟩ := rg_sort h1r
  rw [hqz] at hl
  have hl : lv_has ls 3 [(0, .ref (v 0)), (1, .int (nI q))] := hl
  refine lv_aload_n hx hb dX9_nextJustified_4 rfl (lv_at hl 0 rfl) ?_
  refine va_get (D := D) (ci := 9) (v := .ref ((B 0) 0)) (C := RX9) (T := TX9) (N := 6) hx hb hts i9 hown hK hP 0 rfl rfl 1 (by decide) w3 (fun _ h9 => h9) rfl dX9_nextJustified_5 ?_
  refine va_get (D := D) (ci := 3) (v := .int ((O 0) 0 0)) (C := RX3) (T := TX3) (N := 4) hx hb hts i3 hown hK hP (14 * 0 + 0 + 11) (WIN_get (by decide) (by decide) rfl) rfl 0 (by decide) w4 (fun _ h9 => h9) rfl dX9_nextJustified_8 ?_
  refine endI (r := nI nt) (hn) ?_
  refine lv_istore_n (lv' := [(2, .int (nI nt)), (0, .ref (v 0)), (1, .int (nI q))]) hx hb dX9_nextJustified_11 rfl hl (by decide) rfl (fun ls hl => ?_)
  have L12 : ∀ (n9 : Nat) (k9 : Nat), (nt + 280 - k9) < n9 → (k9 ≤ nt + 280) → (ffind (fun k => justB q ((O 0) 0 1) ((O 0) 0 2) ((O 0) 0 3) k ((O 0) 1 (k % C))) (nt + 280 - k9) k9 = nextC (O 0) C nt q) → (nt ≤ k9) → ∀ (H : Heap) (locs : List Loc) (ls : Array Slot), va_P D vwCl (WIN T v B O g ln un nx pl f0 f1 f2) H → va_D A (WIN T v B O g ln un nx pl f0 f1 f2) → va_S A s.heap H locs → lv_has ls 3 [(2, .int (nI k9)), (0, .ref (v 0)), (1, .int (nI q))] → W p l e ({ frames := 8, cells := 2, slots := 12, locals := 132 } : Room) s m args below meth c H locs (0 + 1) (0 + 6) (vx_MQ below Qc XC args s 2 12 free) (F0 m 12 ls []) := by
    intro n9
    induction n9 with
    | zero => intro k9 hm9; exact absurd hm9 (Nat.not_lt_zero _)
    | succ n9 ih =>
      intro k9 hm9 hk9 hR hk0 H locs ls hP hD hS hl
      refine lv_iload_n hx hb dX9_nextJustified_12 rfl (lv_at hl 0 rfl) ?_
      refine lv_aload_n hx hb dX9_nextJustified_13 rfl (lv_at hl 1 rfl) ?_
      refine va_get (D := D) (ci := 9) (v := .ref ((B 0) 0)) (C := RX9) (T := TX9) (N := 6) hx hb hts i9 hown hK hP 0 rfl rfl 1 (by decide) w3 (fun _ h9 => h9) rfl dX9_nextJustified_14 ?_
      refine va_get (D := D) (ci := 3) (v := .int ((O 0) 0 0)) (C := RX3) (T := TX3) (N := 4) hx hb hts i3 hown hK hP (14 * 0 + 0 + 11) (WIN_get (by decide) (by decide) rfl) rfl 0 (by decide) w4 (fun _ h9 => h9) rfl dX9_nextJustified_17 ?_
      refine endI (r := nI nt) (hn) ?_
      refine lv_sipush (v := 280) hx hb dX9_nextJustified_20 (by decide) ?_
      refine lv_iadd hx hb dX9_nextJustified_23 ?_
      refine endI (r := nI (nt + 280)) (nI_add _ _) ?_
      refine lv_icmp_ge (tgt := 50) hx hb dX9_nextJustified_24 (by decide) (fun c24 => ?_) (fun c24 => ?_)
      ·
        have c24 : (nt + 280) ≤ k9 := (nI_leI (a := (nt + 280)) (b := k9) (by omega) (by omega)).mp c24
        rw [ffind_done (by omega)] at hR
        exact vx_throwN (cls := "java/util/NoSuchElementException") (names := supL) (text := "justified in no night to come") (sa := aK 13) hx hb hl9 hown (by decide +kernel) (by decide +kernel) w1 w2 (show vk_R RX9 166 "justified in no night to come" (aK 13) s from hC.2.1 13 (by decide)) (vx_hat (B := badW "java/util/NoSuchElementException") (fun w hw => hts w (List.mem_cons_of_mem _ (List.mem_append_left _ (List.mem_append_right _ hw)))) tb_120 (hC.2.2.2.2.use (by decide +kernel))) tg_120 hC.2.2.1 hC.2.2.2.1 hS (hl.1.trans hml.symm) dX9_nextJustified_50 dX9_nextJustified_53 dX9_nextJustified_54 dX9_nextJustified_56 dX9_nextJustified_59 (fun x hx => (htab x hx).elim) (by decide) (Nat.le_of_ble_eq_true rfl) (Nat.le_of_ble_eq_true rfl) (Nat.le_of_ble_eq_true rfl) hlocks (fun t hv hz hk => hthr _ _ _ t (by rw [x1, hqc, ← hR]; rfl) hP hD hS hv hz hk) (fun z hz => hfr _ (hS.2.2 z hz)) (by decide) (by decide)
      ·
        have c24 : ¬ (nt + 280) ≤ k9 := fun h9 => c24 ((nI_leI (a := (nt + 280)) (b := k9) (by omega) (by omega)).mpr h9)
        refine lv_aload_n hx hb dX9_nextJustified_27 rfl (lv_at hl 1 rfl) ?_
        refine va_get (D := D) (ci := 9) (v := .ref ((B 0) 0)) (C := RX9) (T := TX9) (N := 6) hx hb hts i9 hown hK hP 0 rfl rfl 1 (by decide) w3 (fun _ h9 => h9) rfl dX9_nextJustified_28 ?_
        refine va_get (D := D) (ci := 3) (v := .ref ((B 0) 1)) (C := RX3) (T := TX3) (N := 4) hx hb hts i3 hown hK hP (14 * 0 + 0 + 11) (WIN_get (by decide) (by decide) rfl) rfl 1 (by decide) w5 (fun _ h9 => h9) rfl dX9_nextJustified_31 ?_
        refine lv_iload_n hx hb dX9_nextJustified_34 rfl (lv_at hl 2 rfl) ?_
        refine lv_iload_n hx hb dX9_nextJustified_35 rfl (lv_at hl 0 rfl) ?_
        refine rdV (As := [.int (nI q), .int (nI k9)]) (rest := []) ⟨hx, hb, hml, hown, hts⟩ (c_X6_justifies l D T (B 0) (O 0) q k9 C hCn hC1 hC2 (by omega) (by omega)) (cwV 2 hts gX9_nextJustified_X6_justifies rfl rfl rfl (by decide +kernel) ⟨Nat.le_of_ble_eq_true rfl, Nat.le_of_ble_eq_true rfl⟩) hK ((WIN_off (j := 0) (by decide) (O 0)).subP hP) 1 rfl rfl rfl hl.1 rfl (Nat.le_of_ble_eq_true rfl) ⟨Nat.le_of_ble_eq_true rfl, Nat.le_of_ble_eq_true rfl⟩ dX9_nextJustified_36 ?_
        refine lv_if_eq (tgt := 44) hx hb dX9_nextJustified_39 (by decide) (fun c39 => ?_) (fun c39 => ?_)
        ·
          have c39 := bI_0.mp c39
          refine lv_iinc (v := nI (k9 + 1)) (lv' := [(2, .int (nI (k9 + 1))), (0, .ref (v 0)), (1, .int (nI q))]) hx hb dX9_nextJustified_44 hl (k := 0) rfl (nI_1 _) (by decide) rfl (fun ls hl => ?_)
          refine lv_goto (tgt := 12) hx hb dX9_nextJustified_47 (by decide) ?_
          exact ih (k9 + 1) (by omega) (by omega) (by rw [ffind_step (by omega)] at hR; simpa [x1, c24, c39] using hR) (by first | assumption | omega) _ _ _ hP hD hS (lv_sub hl [0, 1, 2] rfl)
        ·
          have c39 := bI_n0.mp c39
          rw [ffind_step (by omega), if_pos c39] at hR
          refine lv_iload_n hx hb dX9_nextJustified_42 rfl (lv_at hl 0 rfl) ?_
          refine endI (r := (nextC (O 0) C nt z.toNatClampNeg).elim 0 nI) (by rw [hqc, ← hR]; rfl) ?_
          exact hret _ _ _ _ _ _ dX9_nextJustified_43 (by rw [x1, hqc, ← hR]; rfl) hP hD hS (by decide) (by decide)
  exact L12 _ nt (Nat.lt_succ_self _) (by omega) (by first | rfl | (simp; done)) (by first | assumption | omega | (intros; contradiction)) _ _ _ hP hD hS (lv_sub hl [0, 1, 2] rfl)

set_option maxHeartbeats 4000000 in
set_option maxRecDepth 100000 in
theorem c_X9_justifiedNights (l : Launch) (hl9 : l.stackTraces = false) (D : va_G) (T : Nat → ClassId) (aK aV : Nat → Nat) (v : Nat → Nat) (B : Nat → Nat → Nat) (O : Nat → Nat → Nat → Int32) (g : CSt) (ln un nx pl : Nat) (f0 f1 f2 : Nat → Int32) (z : Int32) (N : Nat) (K : Nat) (C : Nat) (nt : Nat) (hOI : OI (O 0) N K C nt) (sz : Nat) : vx_Met l yX9_justifiedNights wsX9_justifiedNights ({ frames := 8, cells := 1, slots := 6, locals := 132 } : Room) (va_Pc [.ref (v 0), .int (z)] (PSc D T aK aV (WIN T v B O g ln un nx pl f0 f1 f2) sz)) (va_Qi (fun r9 (_ : Unit) => (chkB (rg z 0 3) "java/lang/IllegalArgumentException") = none ∧ r9 = (jcC (O 0) C nt z.toNatClampNeg)) (fun _ t => QS D T (va_A (WIN T v B O g ln un nx pl f0 f1 f2) sz) (WIN T v B O g ln un nx pl f0 f1 f2) t) (va_A (WIN T v B O g ln un nx pl f0 f1 f2) sz)) (vx_X (fun (_ : Unit) => True) (fun E _ t => (chkB (rg z 0 3) "java/lang/IllegalArgumentException") = some E ∧ QS D T (va_A (WIN T v B O g ln un nx pl f0 f1 f2) sz) (WIN T v B O g ln un nx pl f0 f1 f2) t) (va_A (WIN T v B O g ln un nx pl f0 f1 f2) sz)) 1 6 (va_A (WIN T v B O g ln un nx pl f0 f1 f2) sz) := by
  refine metXi (cc := cX9_justifiedNights) (maxL := 2) (ty := .int) (by decide) rfl (by rfl) (Nat.le_of_ble_eq_true rfl) ?_
  intro p e s m args below meth c Qc XC free ls A hx hb hml hown hts hC hP hK hD hA hS hl htab hlocks hfr hret hthr
  have hown : s.vm.findClass RX9 = some m.cls := hown
  have hl : lv_has ls 2 [(0, .ref (v 0)), (1, .int (z))] := hl
  have i3 : ∀ w ∈ wsX30, w ∈ wsX9_justifiedNights := by decide +kernel
  have i9 : ∀ w ∈ wsX90, w ∈ wsX9_justifiedNights := by decide +kernel
  have w1 := hts (Cond.fieldLink RX9 19 "MoonComplaintWindow" "office" "LMoonComplaintWindow$Office;") (List.mem_of_getElem? (i := 1) rfl)
  have w2 := hts (Cond.fieldLink RX9 139 "MoonComplaintWindow$Office" "sky" "LMoonComplaintWindow$Sky;") (List.mem_of_getElem? (i := 2) rfl)
  have w3 := hts (Cond.fieldLink RX9 124 "MoonComplaintWindow$Office" "night" "I") (List.mem_of_getElem? (i := 3) rfl)
  obtain ⟨hN, hN2, hKn, hK2, hCn, hC1, hC2, hn, hnt, hSK⟩ := id hOI
  refine lv_iload_n hx hb dX9_justifiedNights_0 rfl (lv_at hl 1 rfl) ?_
  refine wxSv (As := [.int (z)]) (rest := []) ⟨hx, hb, hml, hown, hts⟩ (c_X9_checkSort l hl9 D T aK aV z _) (va_cwS 1 hts gX9_justifiedNights_X9_checkSort rfl rfl rfl (by decide +kernel) ⟨Nat.le_of_ble_eq_true rfl, Nat.le_of_ble_eq_true rfl⟩) (Foc.nil _) (Foc.nil _) hC hK hP hD hS hA rfl hl.1 rfl (Nat.le_of_ble_eq_true rfl) ⟨Nat.le_of_ble_eq_true rfl, Nat.le_of_ble_eq_true rfl⟩ dX9_justifiedNights_1 (fun E ce q9 H1 locs1 hE hP1 hD1 hS1 hce hcv hcl => vx_out (fun x hx => (htab x hx).elim) hlocks hce hcv hcl (fun t ht hv => hthr H1 locs1 E t (by first | exact hE | (simp only [orE, true_and, hE]; done) | (simp [orE, true_and, hE]; done)) hP1 hD1 hS1 hv (by rw [ht]; exact Nat.le_refl _) (fun q _ => by rw [ht])) (fun z hz => hfr _ (hS1.2.2 z hz)) (by decide) (by decide)) (fun H locs x1 hP hD hS => ?_)
  have hP : va_P D vwCl (WIN T v B O g ln un nx pl f0 f1 f2) H := hP
  have hD : va_D A (WIN T v B O g ln un nx pl f0 f1 f2) := hD
  have h1r := chkB_t x1
  obtain ⟨q, hq, hqz, hqc⟩ := rg_sort h1r
  rw [hqz] at hl
  have hl : lv_has ls 2 [(0, .ref (v 0)), (1, .int (nI q))] := hl
  refine lv_aload_n hx hb dX9_justifiedNights_4 rfl (lv_at hl 0 rfl) ?_
  refine va_get (D := D) (ci := 9) (v := .ref ((B 0) 0)) (C := RX9) (T := TX9) (N := 6) hx hb hts i9 hown hK hP 0 rfl rfl 1 (by decide) w1 (fun _ h9 => h9) rfl dX9_justifiedNights_5 ?_
  refine va_get (D := D) (ci := 3) (v := .ref ((B 0) 1)) (C := RX3) (T := TX3) (N := 4) hx hb hts i3 hown hK hP (14 * 0 + 0 + 11) (WIN_get (by decide) (by decide) rfl) rfl 1 (by decide) w2 (fun _ h9 => h9) rfl dX9_justifiedNights_8 ?_
  refine lv_iload_n hx hb dX9_justifiedNights_11 rfl (lv_at hl 1 rfl) ?_
  refine lv_aload_n hx hb dX9_justifiedNights_12 rfl (lv_at hl 0 rfl) ?_
  refine va_get (D := D) (ci := 9) (v := .ref ((B 0) 0)) (C := RX9) (T := TX9) (N := 6) hx hb hts i9 hown hK hP 0 rfl rfl 1 (by decide) w1 (fun _ h9 => h9) rfl dX9_justifiedNights_13 ?_
  refine va_get (D := D) (ci := 3) (v := .int ((O 0) 0 0)) (C := RX3) (T := TX3) (N := 4) hx hb hts i3 hown hK hP (14 * 0 + 0 + 11) (WIN_get (by decide) (by decide) rfl) rfl 0 (by decide) w3 (fun _ h9 => h9) rfl dX9_justifiedNights_16 ?_
  refine endI (r := nI nt) (hn) ?_
  refine rdV (As := [.int (nI q), .int (nI nt)]) (rest := []) ⟨hx, hb, hml, hown, hts⟩ (c_X6_countJustified l D T (B 0) (O 0) q nt C hCn hC1 hC2 (by omega) (by omega)) (cwV 2 hts gX9_justifiedNights_X6_countJustified rfl rfl rfl (by decide +kernel) ⟨Nat.le_of_ble_eq_true rfl, Nat.le_of_ble_eq_true rfl⟩) hK ((WIN_off (j := 0) (by decide) (O 0)).subP hP) 1 rfl rfl rfl hl.1 rfl (Nat.le_of_ble_eq_true rfl) ⟨Nat.le_of_ble_eq_true rfl, Nat.le_of_ble_eq_true rfl⟩ dX9_justifiedNights_19 ?_
  refine endI (r := jcC (O 0) C nt z.toNatClampNeg) (by rw [hqc]; rfl) ?_
  exact hret _ _ _ _ _ _ dX9_justifiedNights_22 (by first | rfl | (simp only [orE, x1]; done) | (simp only [orE, x1] <;> simp [chkB, x1]; done) | (simp [orE, chkB, x1]; done) | ((first | have x1x := Int32.not_lt.mp x1 | have x1x := Int32.not_le.mp x1 | have x1x := Int32.not_lt.mpr x1 | have x1x := Int32.not_le.mpr x1 | have x1x := x1); simp [orE, chkB, x1, x1x]; done)) hP hD hS (by decide) (by decide)

set_option maxHeartbeats 4000000 in
set_option maxRecDepth 100000 in
theorem c_X9_personOf (l : Launch) (hl9 : l.stackTraces = false) (D : va_G) (T : Nat → ClassId) (aK aV : Nat → Nat) (v : Nat → Nat) (B : Nat → Nat → Nat) (O : Nat → Nat → Nat → Int32) (g : CSt) (ln un nx pl : Nat) (f0 f1 f2 : Nat → Int32) (z : Int32) (N : Nat) (K : Nat) (C : Nat) (nt : Nat) (hOI : OI (O 0) N K C nt) (sz : Nat) : vx_Met l yX9_personOf wsX9_personOf ({ frames := 7, cells := 1, slots := 6, locals := 111 } : Room) (va_Pc [.ref (v 0), .int (z)] (PSc D T aK aV (WIN T v B O g ln un nx pl f0 f1 f2) sz)) (va_Qi (fun r9 (_ : Unit) => (chkB (inN z N) "java/lang/IndexOutOfBoundsException") = none ∧ r9 = ((O 0) 4 z.toNatClampNeg)) (fun _ t => QS D T (va_A (WIN T v B O g ln un nx pl f0 f1 f2) sz) (WIN T v B O g ln un nx pl f0 f1 f2) t) (va_A (WIN T v B O g ln un nx pl f0 f1 f2) sz)) (vx_X (fun (_ : Unit) => True) (fun E _ t => (chkB (inN z N) "java/lang/IndexOutOfBoundsException") = some E ∧ QS D T (va_A (WIN T v B O g ln un nx pl f0 f1 f2) sz) (WIN T v B O g ln un nx pl f0 f1 f2) t) (va_A (WIN T v B O g ln un nx pl f0 f1 f2) sz)) 1 6 (va_A (WIN T v B O g ln un nx pl f0 f1 f2) sz) := by
  refine metXi (cc := cX9_personOf) (maxL := 2) (ty := .int) (by decide) rfl (by rfl) (Nat.le_of_ble_eq_true rfl) ?_
  intro p e s m args below meth c Qc XC free ls A hx hb hml hown hts hC hP hK hD hA hS hl htab hlocks hfr hret hthr
  have hown : s.vm.findClass RX9 = some m.cls := hown
  have hl : lv_has ls 2 [(0, .ref (v 0)), (1, .int (z))] := hl
  have i3 : ∀ w ∈ wsX30, w ∈ wsX9_personOf := by decide +kernel
  have i5 : ∀ w ∈ wsX50, w ∈ wsX9_personOf := by decide +kernel
  have i9 : ∀ w ∈ wsX90, w ∈ wsX9_personOf := by decide +kernel
  have w1 := hts (Cond.fieldLink RX9 19 "MoonComplaintWindow" "office" "LMoonComplaintWindow$Office;") (List.mem_of_getElem? (i := 1) rfl)
  have w2 := hts (Cond.fieldLink RX9 107 "MoonComplaintWindow$Office" "pile" "LMoonComplaintWindow$Pile;") (List.mem_of_getElem? (i := 2) rfl)
  have w3 := hts (Cond.fieldLink RX9 175 "MoonComplaintWindow$Pile" "persons" "[I") (List.mem_of_getElem? (i := 3) rfl)
  obtain ⟨hN, hN2, hKn, hK2, hCn, hC1, hC2, hn, hnt, hSK⟩ := id hOI
  refine lv_aload_n hx hb dX9_personOf_0 rfl (lv_at hl 0 rfl) ?_
  refine lv_iload_n hx hb dX9_personOf_1 rfl (lv_at hl 1 rfl) ?_
  refine wxVv (As := [.int (z)]) (rest := []) ⟨hx, hb, hml, hown, hts⟩ (c_X9_checkComplaint l hl9 D T aK aV v B O g ln un nx pl f0 f1 f2 z N K C nt hOI _) (cwV 1 hts gX9_personOf_X9_checkComplaint rfl rfl rfl (by decide +kernel) ⟨Nat.le_of_ble_eq_true rfl, Nat.le_of_ble_eq_true rfl⟩) (Foc.rfl _ _) (Foc.rfl _ _) hC hK hP hD hS hA 0 rfl rfl rfl hl.1 rfl (Nat.le_of_ble_eq_true rfl) ⟨Nat.le_of_ble_eq_true rfl, Nat.le_of_ble_eq_true rfl⟩ dX9_personOf_2 (fun E ce q9 H1 locs1 hE hP1 hD1 hS1 hce hcv hcl => vx_out (fun x hx => (htab x hx).elim) hlocks hce hcv hcl (fun t ht hv => hthr H1 locs1 E t (by first | exact hE | (simp only [orE, true_and, hE]; done) | (simp [orE, true_and, hE]; done)) hP1 hD1 hS1 hv (by rw [ht]; exact Nat.le_refl _) (fun q _ => by rw [ht])) (fun z hz => hfr _ (hS1.2.2 z hz)) (by decide) (by decide)) (fun H locs x2 hP hD hS => ?_)
  have hP : va_P D vwCl (WIN T v B O g ln un nx pl f0 f1 f2) H := hP
  have hD : va_D A (WIN T v B O g ln un nx pl f0 f1 f2) := hD
  have h2r := chkB_t x2
  obtain ⟨j, hj, hjz, hjc⟩ := inN_t (by omega) h2r
  rw [hjz] at hl
  have hl : lv_has ls 2 [(0, .ref (v 0)), (1, .int (nI j))] := hl
  refine lv_aload_n hx hb dX9_personOf_5 rfl (lv_at hl 0 rfl) ?_
  refine va_get (D := D) (ci := 9) (v := .ref ((B 0) 0)) (C := RX9) (T := TX9) (N := 6) hx hb hts i9 hown hK hP 0 rfl rfl 1 (by decide) w1 (fun _ h9 => h9) rfl dX9_personOf_6 ?_
  refine va_get (D := D) (ci := 3) (v := .ref ((B 0) 6)) (C := RX3) (T := TX3) (N := 4) hx hb hts i3 hown hK hP (14 * 0 + 0 + 11) (WIN_get (by decide) (by decide) rfl) rfl 3 (by decide) w2 (fun _ h9 => h9) rfl dX9_personOf_9 ?_
  refine va_get (D := D) (ci := 5) (v := .ref ((B 0) 7)) (C := RX5) (T := TX5) (N := 8) hx hb hts i5 hown hK hP (14 * 0 + 6 + 11) (WIN_get (by decide) (by decide) rfl) rfl 1 (by decide) w3 (fun _ h9 => h9) rfl dX9_personOf_12 ?_
  refine lv_iload_n hx hb dX9_personOf_15 rfl (lv_at hl 1 rfl) ?_
  refine aldI hx hb hK hP (14 * 0 + 7 + 11) 0 (WIN_get (by decide) (by decide) rfl) rfl (j) rfl (by omega) (by decide) dX9_personOf_16 ?_
  refine endI (r := ((O 0) 4) j) rfl ?_
  refine endI (r := (O 0) 4 z.toNatClampNeg) (by rw [hjc]; done) ?_
  exact hret _ _ _ _ _ _ dX9_personOf_17 (by first | rfl | (simp only [orE, x2]; done) | (simp only [orE, x2] <;> simp [chkB, x2]; done) | (simp [orE, chkB, x2]; done) | ((first | have x2x := Int32.not_lt.mp x2 | have x2x := Int32.not_le.mp x2 | have x2x := Int32.not_lt.mpr x2 | have x2x := Int32.not_le.mpr x2 | have x2x := x2); simp [orE, chkB, x2, x2x]; done)) hP hD hS (by decide) (by decide)

set_option maxHeartbeats 4000000 in
set_option maxRecDepth 100000 in
theorem c_X9_sortOf (l : Launch) (hl9 : l.stackTraces = false) (D : va_G) (T : Nat → ClassId) (aK aV : Nat → Nat) (v : Nat → Nat) (B : Nat → Nat → Nat) (O : Nat → Nat → Nat → Int32) (g : CSt) (ln un nx pl : Nat) (f0 f1 f2 : Nat → Int32) (z : Int32) (N : Nat) (K : Nat) (C : Nat) (nt : Nat) (hOI : OI (O 0) N K C nt) (sz : Nat) : vx_Met l yX9_sortOf wsX9_sortOf ({ frames := 7, cells := 1, slots := 6, locals := 111 } : Room) (va_Pc [.ref (v 0), .int (z)] (PSc D T aK aV (WIN T v B O g ln un nx pl f0 f1 f2) sz)) (va_Qi (fun r9 (_ : Unit) => (chkB (inN z N) "java/lang/IndexOutOfBoundsException") = none ∧ r9 = ((O 0) 5 z.toNatClampNeg)) (fun _ t => QS D T (va_A (WIN T v B O g ln un nx pl f0 f1 f2) sz) (WIN T v B O g ln un nx pl f0 f1 f2) t) (va_A (WIN T v B O g ln un nx pl f0 f1 f2) sz)) (vx_X (fun (_ : Unit) => True) (fun E _ t => (chkB (inN z N) "java/lang/IndexOutOfBoundsException") = some E ∧ QS D T (va_A (WIN T v B O g ln un nx pl f0 f1 f2) sz) (WIN T v B O g ln un nx pl f0 f1 f2) t) (va_A (WIN T v B O g ln un nx pl f0 f1 f2) sz)) 1 6 (va_A (WIN T v B O g ln un nx pl f0 f1 f2) sz) := by
  refine metXi (cc := cX9_sortOf) (maxL := 2) (ty := .int) (by decide) rfl (by rfl) (Nat.le_of_ble_eq_true rfl) ?_
  intro p e s m args below meth c Qc XC free ls A hx hb hml hown hts hC hP hK hD hA hS hl htab hlocks hfr hret hthr
  have hown : s.vm.findClass RX9 = some m.cls := hown
  have hl : lv_has ls 2 [(0, .ref (v 0)), (1, .int (z))] := hl
  have i3 : ∀ w ∈ wsX30, w ∈ wsX9_sortOf := by decide +kernel
  have i5 : ∀ w ∈ wsX50, w ∈ wsX9_sortOf := by decide +kernel
  have i9 : ∀ w ∈ wsX90, w ∈ wsX9_sortOf := by decide +kernel
  have w1 := hts (Cond.fieldLink RX9 19 "MoonComplaintWindow" "office" "LMoonComplaintWindow$Office;") (List.mem_of_getElem? (i := 1) rfl)
  have w2 := hts (Cond.fieldLink RX9 107 "MoonComplaintWindow$Office" "pile" "LMoonComplaintWindow$Pile;") (List.mem_of_getElem? (i := 2) rfl)
  have w3 := hts (Cond.fieldLink RX9 179 "MoonComplaintWindow$Pile" "sorts" "[I") (List.mem_of_getElem? (i := 3) rfl)
  obtain ⟨hN, hN2, hKn, hK2, hCn, hC1, hC2, hn, hnt, hSK⟩ := id hOI
  refine lv_aload_n hx hb dX9_sortOf_0 rfl (lv_at hl 0 rfl) ?_
  refine lv_iload_n hx hb dX9_sortOf_1 rfl (lv_at hl 1 rfl) ?_
  refine wxVv (As := [.int (z)]) (rest := []) ⟨hx, hb, hml, hown, hts⟩ (c_X9_checkComplaint l hl9 D T aK aV v B O g ln un nx pl f0 f1 f2 z N K C nt hOI _) (cwV 1 hts gX9_sortOf_X9_checkComplaint rfl rfl rfl (by decide +kernel) ⟨Nat.le_of_ble_eq_true rfl, Nat.le_of_ble_eq_true rfl⟩) (Foc.rfl _ _) (Foc.rfl _ _) hC hK hP hD hS hA 0 rfl rfl rfl hl.1 rfl (Nat.le_of_ble_eq_true rfl) ⟨Nat.le_of_ble_eq_true rfl, Nat.le_of_ble_eq_true rfl⟩ dX9_sortOf_2 (fun E ce q9 H1 locs1 hE hP1 hD1 hS1 hce hcv hcl => vx_out (fun x hx => (htab x hx).elim) hlocks hce hcv hcl (fun t ht hv => hthr H1 locs1 E t (by first | exact hE | (simp only [orE, true_and, hE]; done) | (simp [orE, true_and, hE]; done)) hP1 hD1 hS1 hv (by rw [ht]; exact Nat.le_refl _) (fun q _ => by rw [ht])) (fun z hz => hfr _ (hS1.2.2 z hz)) (by decide) (by decide)) (fun H locs x2 hP hD hS => ?_)
  have hP : va_P D vwCl (WIN T v B O g ln un nx pl f0 f1 f2) H := hP
  have hD : va_D A (WIN T v B O g ln un nx pl f0 f1 f2) := hD
  have h2r := chkB_t x2
  obtain ⟨j, hj, hjz, hjc⟩ := inN_t (by omega) h2r
  rw [hjz] at hl
  have hl : lv_has ls 2 [(0, .ref (v 0)), (1, .int (nI j))] := hl
  refine lv_aload_n hx hb dX9_sortOf_5 rfl (lv_at hl 0 rfl) ?_
  refine va_get (D := D) (ci := 9) (v := .ref ((B 0) 0)) (C := RX9) (T := TX9) (N := 6) hx hb hts i9 hown hK hP 0 rfl rfl 1 (by decide) w1 (fun _ h9 => h9) rfl dX9_sortOf_6 ?_
  refine va_get (D := D) (ci := 3) (v := .ref ((B 0) 6)) (C := RX3) (T := TX3) (N := 4) hx hb hts i3 hown hK hP (14 * 0 + 0 + 11) (WIN_get (by decide) (by decide) rfl) rfl 3 (by decide) w2 (fun _ h9 => h9) rfl dX9_sortOf_9 ?_
  refine va_get (D := D) (ci := 5) (v := .ref ((B 0) 8)) (C := RX5) (T := TX5) (N := 8) hx hb hts i5 hown hK hP (14 * 0 + 6 + 11) (WIN_get (by decide) (by decide) rfl) rfl 2 (by decide) w3 (fun _ h9 => h9) rfl dX9_sortOf_12 ?_
  refine lv_iload_n hx hb dX9_sortOf_15 rfl (lv_at hl 1 rfl) ?_
  refine aldI hx hb hK hP (14 * 0 + 8 + 11) 0 (WIN_get (by decide) (by decide) rfl) rfl (j) rfl (by omega) (by decide) dX9_sortOf_16 ?_
  refine endI (r := ((O 0) 5) j) rfl ?_
  refine endI (r := (O 0) 5 z.toNatClampNeg) (by rw [hjc]; done) ?_
  exact hret _ _ _ _ _ _ dX9_sortOf_17 (by first | rfl | (simp only [orE, x2]; done) | (simp only [orE, x2] <;> simp [chkB, x2]; done) | (simp [orE, chkB, x2]; done) | ((first | have x2x := Int32.not_lt.mp x2 | have x2x := Int32.not_le.mp x2 | have x2x := Int32.not_lt.mpr x2 | have x2x := Int32.not_le.mpr x2 | have x2x := x2); simp [orE, chkB, x2, x2x]; done)) hP hD hS (by decide) (by decide)

set_option maxHeartbeats 4000000 in
set_option maxRecDepth 100000 in
theorem c_X9_angerOf (l : Launch) (hl9 : l.stackTraces = false) (D : va_G) (T : Nat → ClassId) (aK aV : Nat → Nat) (v : Nat → Nat) (B : Nat → Nat → Nat) (O : Nat → Nat → Nat → Int32) (g : CSt) (ln un nx pl : Nat) (f0 f1 f2 : Nat → Int32) (z : Int32) (N : Nat) (K : Nat) (C : Nat) (nt : Nat) (hOI : OI (O 0) N K C nt) (sz : Nat) : vx_Met l yX9_angerOf wsX9_angerOf ({ frames := 7, cells := 1, slots := 6, locals := 111 } : Room) (va_Pc [.ref (v 0), .int (z)] (PSc D T aK aV (WIN T v B O g ln un nx pl f0 f1 f2) sz)) (va_Qi (fun r9 (_ : Unit) => (chkB (inN z N) "java/lang/IndexOutOfBoundsException") = none ∧ r9 = ((O 0) 6 z.toNatClampNeg)) (fun _ t => QS D T (va_A (WIN T v B O g ln un nx pl f0 f1 f2) sz) (WIN T v B O g ln un nx pl f0 f1 f2) t) (va_A (WIN T v B O g ln un nx pl f0 f1 f2) sz)) (vx_X (fun (_ : Unit) => True) (fun E _ t => (chkB (inN z N) "java/lang/IndexOutOfBoundsException") = some E ∧ QS D T (va_A (WIN T v B O g ln un nx pl f0 f1 f2) sz) (WIN T v B O g ln un nx pl f0 f1 f2) t) (va_A (WIN T v B O g ln un nx pl f0 f1 f2) sz)) 1 6 (va_A (WIN T v B O g ln un nx pl f0 f1 f2) sz) := by
  refine metXi (cc := cX9_angerOf) (maxL := 2) (ty := .int) (by decide) rfl (by rfl) (Nat.le_of_ble_eq_true rfl) ?_
  intro p e s m args below meth c Qc XC free ls A hx hb hml hown hts hC hP hK hD hA hS hl htab hlocks hfr hret hthr
  have hown : s.vm.findClass RX9 = some m.cls := hown
  have hl : lv_has ls 2 [(0, .ref (v 0)), (1, .int (z))] := hl
  have i3 : ∀ w ∈ wsX30, w ∈ wsX9_angerOf := by decide +kernel
  have i5 : ∀ w ∈ wsX50, w ∈ wsX9_angerOf := by decide +kernel
  have i9 : ∀ w ∈ wsX90, w ∈ wsX9_angerOf := by decide +kernel
  have w1 := hts (Cond.fieldLink RX9 19 "MoonComplaintWindow" "office" "LMoonComplaintWindow$Office;") (List.mem_of_getElem? (i := 1) rfl)
  have w2 := hts (Cond.fieldLink RX9 107 "MoonComplaintWindow$Office" "pile" "LMoonComplaintWindow$Pile;") (List.mem_of_getElem? (i := 2) rfl)
  have w3 := hts (Cond.fieldLink RX9 182 "MoonComplaintWindow$Pile" "angers" "[I") (List.mem_of_getElem? (i := 3) rfl)
  obtain ⟨hN, hN2, hKn, hK2, hCn, hC1, hC2, hn, hnt, hSK⟩ := id hOI
  refine lv_aload_n hx hb dX9_angerOf_0 rfl (lv_at hl 0 rfl) ?_
  refine lv_iload_n hx hb dX9_angerOf_1 rfl (lv_at hl 1 rfl) ?_
  refine wxVv (As := [.int (z)]) (rest := []) ⟨hx, hb, hml, hown, hts⟩ (c_X9_checkComplaint l hl9 D T aK aV v B O g ln un nx pl f0 f1 f2 z N K C nt hOI _) (cwV 1 hts gX9_angerOf_X9_checkComplaint rfl rfl rfl (by decide +kernel) ⟨Nat.le_of_ble_eq_true rfl, Nat.le_of_ble_eq_true rfl⟩) (Foc.rfl _ _) (Foc.rfl _ _) hC hK hP hD hS hA 0 rfl rfl rfl hl.1 rfl (Nat.le_of_ble_eq_true rfl) ⟨Nat.le_of_ble_eq_true rfl, Nat.le_of_ble_eq_true rfl⟩ dX9_angerOf_2 (fun E ce q9 H1 locs1 hE hP1 hD1 hS1 hce hcv hcl => vx_out (fun x hx => (htab x hx).elim) hlocks hce hcv hcl (fun t ht hv => hthr H1 locs1 E t (by first | exact hE | (simp only [orE, true_and, hE]; done) | (simp [orE, true_and, hE]; done)) hP1 hD1 hS1 hv (by rw [ht]; exact Nat.le_refl _) (fun q _ => by rw [ht])) (fun z hz => hfr _ (hS1.2.2 z hz)) (by decide) (by decide)) (fun H locs x2 hP hD hS => ?_)
  have hP : va_P D vwCl (WIN T v B O g ln un nx pl f0 f1 f2) H := hP
  have hD : va_D A (WIN T v B O g ln un nx pl f0 f1 f2) := hD
  have h2r := chkB_t x2
  obtain ⟨j, hj, hjz, hjc⟩ := inN_t (by omega) h2r
  rw [hjz] at hl
  have hl : lv_has ls 2 [(0, .ref (v 0)), (1, .int (nI j))] := hl
  refine lv_aload_n hx hb dX9_angerOf_5 rfl (lv_at hl 0 rfl) ?_
  refine va_get (D := D) (ci := 9) (v := .ref ((B 0) 0)) (C := RX9) (T := TX9) (N := 6) hx hb hts i9 hown hK hP 0 rfl rfl 1 (by decide) w1 (fun _ h9 => h9) rfl dX9_angerOf_6 ?_
  refine va_get (D := D) (ci := 3) (v := .ref ((B 0) 6)) (C := RX3) (T := TX3) (N := 4) hx hb hts i3 hown hK hP (14 * 0 + 0 + 11) (WIN_get (by decide) (by decide) rfl) rfl 3 (by decide) w2 (fun _ h9 => h9) rfl dX9_angerOf_9 ?_
  refine va_get (D := D) (ci := 5) (v := .ref ((B 0) 9)) (C := RX5) (T := TX5) (N := 8) hx hb hts i5 hown hK hP (14 * 0 + 6 + 11) (WIN_get (by decide) (by decide) rfl) rfl 3 (by decide) w3 (fun _ h9 => h9) rfl dX9_angerOf_12 ?_
  refine lv_iload_n hx hb dX9_angerOf_15 rfl (lv_at hl 1 rfl) ?_
  refine aldI hx hb hK hP (14 * 0 + 9 + 11) 0 (WIN_get (by decide) (by decide) rfl) rfl (j) rfl (by omega) (by decide) dX9_angerOf_16 ?_
  refine endI (r := ((O 0) 6) j) rfl ?_
  refine endI (r := (O 0) 6 z.toNatClampNeg) (by rw [hjc]; done) ?_
  exact hret _ _ _ _ _ _ dX9_angerOf_17 (by first | rfl | (simp only [orE, x2]; done) | (simp only [orE, x2] <;> simp [chkB, x2]; done) | (simp [orE, chkB, x2]; done) | ((first | have x2x := Int32.not_lt.mp x2 | have x2x := Int32.not_le.mp x2 | have x2x := Int32.not_lt.mpr x2 | have x2x := Int32.not_le.mpr x2 | have x2x := x2); simp [orE, chkB, x2, x2x]; done)) hP hD hS (by decide) (by decide)

set_option maxHeartbeats 4000000 in
set_option maxRecDepth 100000 in
theorem c_X9_filedIn (l : Launch) (hl9 : l.stackTraces = false) (D : va_G) (T : Nat → ClassId) (aK aV : Nat → Nat) (v : Nat → Nat) (B : Nat → Nat → Nat) (O : Nat → Nat → Nat → Int32) (g : CSt) (ln un nx pl : Nat) (f0 f1 f2 : Nat → Int32) (z : Int32) (N : Nat) (K : Nat) (C : Nat) (nt : Nat) (hOI : OI (O 0) N K C nt) (sz : Nat) : vx_Met l yX9_filedIn wsX9_filedIn ({ frames := 7, cells := 1, slots := 6, locals := 111 } : Room) (va_Pc [.ref (v 0), .int (z)] (PSc D T aK aV (WIN T v B O g ln un nx pl f0 f1 f2) sz)) (va_Qi (fun r9 (_ : Unit) => (chkB (inN z N) "java/lang/IndexOutOfBoundsException") = none ∧ r9 = ((O 0) 7 z.toNatClampNeg)) (fun _ t => QS D T (va_A (WIN T v B O g ln un nx pl f0 f1 f2) sz) (WIN T v B O g ln un nx pl f0 f1 f2) t) (va_A (WIN T v B O g ln un nx pl f0 f1 f2) sz)) (vx_X (fun (_ : Unit) => True) (fun E _ t => (chkB (inN z N) "java/lang/IndexOutOfBoundsException") = some E ∧ QS D T (va_A (WIN T v B O g ln un nx pl f0 f1 f2) sz) (WIN T v B O g ln un nx pl f0 f1 f2) t) (va_A (WIN T v B O g ln un nx pl f0 f1 f2) sz)) 1 6 (va_A (WIN T v B O g ln un nx pl f0 f1 f2) sz) := by
  refine metXi (cc := cX9_filedIn) (maxL := 2) (ty := .int) (by decide) rfl (by rfl) (Nat.le_of_ble_eq_true rfl) ?_
  intro p e s m args below meth c Qc XC free ls A hx hb hml hown hts hC hP hK hD hA hS hl htab hlocks hfr hret hthr
  have hown : s.vm.findClass RX9 = some m.cls := hown
  have hl : lv_has ls 2 [(0, .ref (v 0)), (1, .int (z))] := hl
  have i3 : ∀ w ∈ wsX30, w ∈ wsX9_filedIn := by decide +kernel
  have i5 : ∀ w ∈ wsX50, w ∈ wsX9_filedIn := by decide +kernel
  have i9 : ∀ w ∈ wsX90, w ∈ wsX9_filedIn := by decide +kernel
  have w1 := hts (Cond.fieldLink RX9 19 "MoonComplaintWindow" "office" "LMoonComplaintWindow$Office;") (List.mem_of_getElem? (i := 1) rfl)
  have w2 := hts (Cond.fieldLink RX9 107 "MoonComplaintWindow$Office" "pile" "LMoonComplaintWindow$Pile;") (List.mem_of_getElem? (i := 2) rfl)
  have w3 := hts (Cond.fieldLink RX9 185 "MoonComplaintWindow$Pile" "filed" "[I") (List.mem_of_getElem? (i := 3) rfl)
  obtain ⟨hN, hN2, hKn, hK2, hCn, hC1, hC2, hn, hnt, hSK⟩ := id hOI
  refine lv_aload_n hx hb dX9_filedIn_0 rfl (lv_at hl 0 rfl) ?_
  refine lv_iload_n hx hb dX9_filedIn_1 rfl (lv_at hl 1 rfl) ?_
  refine wxVv (As := [.int (z)]) (rest := []) ⟨hx, hb, hml, hown, hts⟩ (c_X9_checkComplaint l hl9 D T aK aV v B O g ln un nx pl f0 f1 f2 z N K C nt hOI _) (cwV 1 hts gX9_filedIn_X9_checkComplaint rfl rfl rfl (by decide +kernel) ⟨Nat.le_of_ble_eq_true rfl, Nat.le_of_ble_eq_true rfl⟩) (Foc.rfl _ _) (Foc.rfl _ _) hC hK hP hD hS hA 0 rfl rfl rfl hl.1 rfl (Nat.le_of_ble_eq_true rfl) ⟨Nat.le_of_ble_eq_true rfl, Nat.le_of_ble_eq_true rfl⟩ dX9_filedIn_2 (fun E ce q9 H1 locs1 hE hP1 hD1 hS1 hce hcv hcl => vx_out (fun x hx => (htab x hx).elim) hlocks hce hcv hcl (fun t ht hv => hthr H1 locs1 E t (by first | exact hE | (simp only [orE, true_and, hE]; done) | (simp [orE, true_and, hE]; done)) hP1 hD1 hS1 hv (by rw [ht]; exact Nat.le_refl _) (fun q _ => by rw [ht])) (fun z hz => hfr _ (hS1.2.2 z hz)) (by decide) (by decide)) (fun H locs x2 hP hD hS => ?_)
  have hP : va_P D vwCl (WIN T v B O g ln un nx pl f0 f1 f2) H := hP
  have hD : va_D A (WIN T v B O g ln un nx pl f0 f1 f2) := hD
  have h2r := chkB_t x2
  obtain ⟨j, hj, hjz, hjc⟩ := inN_t (by omega) h2r
  rw [hjz] at hl
  have hl : lv_has ls 2 [(0, .ref (v 0)), (1, .int (nI j))] := hl
  refine lv_aload_n hx hb dX9_filedIn_5 rfl (lv_at hl 0 rfl) ?_
  refine va_get (D := D) (ci := 9) (v := .ref ((B 0) 0)) (C := RX9) (T := TX9) (N := 6) hx hb hts i9 hown hK hP 0 rfl rfl 1 (by decide) w1 (fun _ h9 => h9) rfl dX9_filedIn_6 ?_
  refine va_get (D := D) (ci := 3) (v := .ref ((B 0) 6)) (C := RX3) (T := TX3) (N := 4) hx hb hts i3 hown hK hP (14 * 0 + 0 + 11) (WIN_get (by decide) (by decide) rfl) rfl 3 (by decide) w2 (fun _ h9 => h9) rfl dX9_filedIn_9 ?_
  refine va_get (D := D) (ci := 5) (v := .ref ((B 0) 10)) (C := RX5) (T := TX5) (N := 8) hx hb hts i5 hown hK hP (14 * 0 + 6 + 11) (WIN_get (by decide) (by decide) rfl) rfl 4 (by decide) w3 (fun _ h9 => h9) rfl dX9_filedIn_12 ?_
  refine lv_iload_n hx hb dX9_filedIn_15 rfl (lv_at hl 1 rfl) ?_
  refine aldI hx hb hK hP (14 * 0 + 10 + 11) 0 (WIN_get (by decide) (by decide) rfl) rfl (j) rfl (by omega) (by decide) dX9_filedIn_16 ?_
  refine endI (r := ((O 0) 7) j) rfl ?_
  refine endI (r := (O 0) 7 z.toNatClampNeg) (by rw [hjc]; done) ?_
  exact hret _ _ _ _ _ _ dX9_filedIn_17 (by first | rfl | (simp only [orE, x2]; done) | (simp only [orE, x2] <;> simp [chkB, x2]; done) | (simp [orE, chkB, x2]; done) | ((first | have x2x := Int32.not_lt.mp x2 | have x2x := Int32.not_le.mp x2 | have x2x := Int32.not_lt.mpr x2 | have x2x := Int32.not_le.mpr x2 | have x2x := x2); simp [orE, chkB, x2, x2x]; done)) hP hD hS (by decide) (by decide)

set_option maxHeartbeats 4000000 in
set_option maxRecDepth 100000 in
theorem c_X9_isWaiting (l : Launch) (hl9 : l.stackTraces = false) (D : va_G) (T : Nat → ClassId) (aK aV : Nat → Nat) (v : Nat → Nat) (B : Nat → Nat → Nat) (O : Nat → Nat → Nat → Int32) (g : CSt) (ln un nx pl : Nat) (f0 f1 f2 : Nat → Int32) (z : Int32) (N : Nat) (K : Nat) (C : Nat) (nt : Nat) (hOI : OI (O 0) N K C nt) (sz : Nat) : vx_Met l yX9_isWaiting wsX9_isWaiting ({ frames := 7, cells := 1, slots := 6, locals := 111 } : Room) (va_Pc [.ref (v 0), .int (z)] (PSc D T aK aV (WIN T v B O g ln un nx pl f0 f1 f2) sz)) (va_Qi (fun r9 (_ : Unit) => (chkB (inN z N) "java/lang/IndexOutOfBoundsException") = none ∧ r9 = (bI (decide ((O 0) 8 z.toNatClampNeg = 0)))) (fun _ t => QS D T (va_A (WIN T v B O g ln un nx pl f0 f1 f2) sz) (WIN T v B O g ln un nx pl f0 f1 f2) t) (va_A (WIN T v B O g ln un nx pl f0 f1 f2) sz)) (vx_X (fun (_ : Unit) => True) (fun E _ t => (chkB (inN z N) "java/lang/IndexOutOfBoundsException") = some E ∧ QS D T (va_A (WIN T v B O g ln un nx pl f0 f1 f2) sz) (WIN T v B O g ln un nx pl f0 f1 f2) t) (va_A (WIN T v B O g ln un nx pl f0 f1 f2) sz)) 1 6 (va_A (WIN T v B O g ln un nx pl f0 f1 f2) sz) := by
  refine metXi (cc := cX9_isWaiting) (maxL := 2) (ty := .boolean) (by decide) rfl (by exact bI_nb _) (Nat.le_of_ble_eq_true rfl) ?_
  intro p e s m args below meth c Qc XC free ls A hx hb hml hown hts hC hP hK hD hA hS hl htab hlocks hfr hret hthr
  have hown : s.vm.findClass RX9 = some m.cls := hown
  have hl : lv_has ls 2 [(0, .ref (v 0)), (1, .int (z))] := hl
  have i3 : ∀ w ∈ wsX30, w ∈ wsX9_isWaiting := by decide +kernel
  have i5 : ∀ w ∈ wsX50, w ∈ wsX9_isWaiting := by decide +kernel
  have i9 : ∀ w ∈ wsX90, w ∈ wsX9_isWaiting := by decide +kernel
  have w1 := hts (Cond.fieldLink RX9 19 "MoonComplaintWindow" "office" "LMoonComplaintWindow$Office;") (List.mem_of_getElem? (i := 1) rfl)
  have w2 := hts (Cond.fieldLink RX9 107 "MoonComplaintWindow$Office" "pile" "LMoonComplaintWindow$Pile;") (List.mem_of_getElem? (i := 2) rfl)
  have w3 := hts (Cond.fieldLink RX9 188 "MoonComplaintWindow$Pile" "states" "[I") (List.mem_of_getElem? (i := 3) rfl)
  obtain ⟨hN, hN2, hKn, hK2, hCn, hC1, hC2, hn, hnt, hSK⟩ := id hOI
  refine lv_aload_n hx hb dX9_isWaiting_0 rfl (lv_at hl 0 rfl) ?_
  refine lv_iload_n hx hb dX9_isWaiting_1 rfl (lv_at hl 1 rfl) ?_
  refine wxVv (As := [.int (z)]) (rest := []) ⟨hx, hb, hml, hown, hts⟩ (c_X9_checkComplaint l hl9 D T aK aV v B O g ln un nx pl f0 f1 f2 z N K C nt hOI _) (cwV 1 hts gX9_isWaiting_X9_checkComplaint rfl rfl rfl (by decide +kernel) ⟨Nat.le_of_ble_eq_true rfl, Nat.le_of_ble_eq_true rfl⟩) (Foc.rfl _ _) (Foc.rfl _ _) hC hK hP hD hS hA 0 rfl rfl rfl hl.1 rfl (Nat.le_of_ble_eq_true rfl) ⟨Nat.le_of_ble_eq_true rfl, Nat.le_of_ble_eq_true rfl⟩ dX9_isWaiting_2 (fun E ce q9 H1 locs1 hE hP1 hD1 hS1 hce hcv hcl => vx_out (fun x hx => (htab x hx).elim) hlocks hce hcv hcl (fun t ht hv => hthr H1 locs1 E t (by first | exact hE | (simp only [orE, true_and, hE]; done) | (simp [orE, true_and, hE]; done)) hP1 hD1 hS1 hv (by rw [ht]; exact Nat.le_refl _) (fun q _ => by rw [ht])) (fun z hz => hfr _ (hS1.2.2 z hz)) (by decide) (by decide)) (fun H locs x2 hP hD hS => ?_)
  have hP : va_P D vwCl (WIN T v B O g ln un nx pl f0 f1 f2) H := hP
  have hD : va_D A (WIN T v B O g ln un nx pl f0 f1 f2) := hD
  have h2r := chkB_t x2
  obtain ⟨j, hj, hjz, hjc⟩ := inN_t (by omega) h2r
  rw [hjz] at hl
  have hl : lv_has ls 2 [(0, .ref (v 0)), (1, .int (nI j))] := hl
  refine lv_aload_n hx hb dX9_isWaiting_5 rfl (lv_at hl 0 rfl) ?_
  refine va_get (D := D) (ci := 9) (v := .ref ((B 0) 0)) (C := RX9) (T := TX9) (N := 6) hx hb hts i9 hown hK hP 0 rfl rfl 1 (by decide) w1 (fun _ h9 => h9) rfl dX9_isWaiting_6 ?_
  refine va_get (D := D) (ci := 3) (v := .ref ((B 0) 6)) (C := RX3) (T := TX3) (N := 4) hx hb hts i3 hown hK hP (14 * 0 + 0 + 11) (WIN_get (by decide) (by decide) rfl) rfl 3 (by decide) w2 (fun _ h9 => h9) rfl dX9_isWaiting_9 ?_
  refine va_get (D := D) (ci := 5) (v := .ref ((B 0) 11)) (C := RX5) (T := TX5) (N := 8) hx hb hts i5 hown hK hP (14 * 0 + 6 + 11) (WIN_get (by decide) (by decide) rfl) rfl 5 (by decide) w3 (fun _ h9 => h9) rfl dX9_isWaiting_12 ?_
  refine lv_iload_n hx hb dX9_isWaiting_15 rfl (lv_at hl 1 rfl) ?_
  refine aldI hx hb hK hP (14 * 0 + 11 + 11) 0 (WIN_get (by decide) (by decide) rfl) rfl (j) rfl (by omega) (by decide) dX9_isWaiting_16 ?_
  refine endI (r := ((O 0) 8) j) rfl ?_
  refine lv_if_ne (tgt := 24) hx hb dX9_isWaiting_17 (by decide) (fun c17 => ?_) (fun c17 => ?_)
  ·
    refine lv_iconst (v := 0) hx hb dX9_isWaiting_24 (by decide) ?_
    refine endI (r := bI (decide ((O 0) 8 z.toNatClampNeg = 0))) (by rw [hjc]; simp [bI, x2, c17]) ?_
    exact hret _ _ _ _ _ _ dX9_isWaiting_25 (by first | rfl | (simp only [orE, x2, c17]; done) | (simp only [orE, x2, c17] <;> simp [chkB, x2, c17]; done) | (simp [orE, chkB, x2, c17]; done) | ((first | have x2x := Int32.not_lt.mp x2 | have x2x := Int32.not_le.mp x2 | have x2x := Int32.not_lt.mpr x2 | have x2x := Int32.not_le.mpr x2 | have x2x := x2); (first | have c17x := Int32.not_lt.mp c17 | have c17x := Int32.not_le.mp c17 | have c17x := Int32.not_lt.mpr c17 | have c17x := Int32.not_le.mpr c17 | have c17x := c17); simp [orE, chkB, x2, c17, x2x, c17x]; done)) hP hD hS (by decide) (by decide)
  ·
    refine lv_iconst (v := 1) hx hb dX9_isWaiting_20 (by decide) ?_
    refine lv_goto (tgt := 25) hx hb dX9_isWaiting_21 (by decide) ?_
    refine endI (r := bI (decide ((O 0) 8 z.toNatClampNeg = 0))) (by rw [hjc]; simp [bI, x2, c17]) ?_
    exact hret _ _ _ _ _ _ dX9_isWaiting_25 (by first | rfl | (simp only [orE, x2, c17]; done) | (simp only [orE, x2, c17] <;> simp [chkB, x2, c17]; done) | (simp [orE, chkB, x2, c17]; done) | ((first | have x2x := Int32.not_lt.mp x2 | have x2x := Int32.not_le.mp x2 | have x2x := Int32.not_lt.mpr x2 | have x2x := Int32.not_le.mpr x2 | have x2x := x2); (first | have c17x := Int32.not_lt.mp c17 | have c17x := Int32.not_le.mp c17 | have c17x := Int32.not_lt.mpr c17 | have c17x := Int32.not_le.mpr c17 | have c17x := c17); simp [orE, chkB, x2, c17, x2x, c17x]; done)) hP hD hS (by decide) (by decide)

set_option maxHeartbeats 4000000 in
set_option maxRecDepth 100000 in
theorem c_X9_isAnswered (l : Launch) (hl9 : l.stackTraces = false) (D : va_G) (T : Nat → ClassId) (aK aV : Nat → Nat) (v : Nat → Nat) (B : Nat → Nat → Nat) (O : Nat → Nat → Nat → Int32) (g : CSt) (ln un nx pl : Nat) (f0 f1 f2 : Nat → Int32) (z : Int32) (N : Nat) (K : Nat) (C : Nat) (nt : Nat) (hOI : OI (O 0) N K C nt) (sz : Nat) : vx_Met l yX9_isAnswered wsX9_isAnswered ({ frames := 7, cells := 1, slots := 6, locals := 111 } : Room) (va_Pc [.ref (v 0), .int (z)] (PSc D T aK aV (WIN T v B O g ln un nx pl f0 f1 f2) sz)) (va_Qi (fun r9 (_ : Unit) => (chkB (inN z N) "java/lang/IndexOutOfBoundsException") = none ∧ r9 = (bI (decide ((O 0) 8 z.toNatClampNeg = 1)))) (fun _ t => QS D T (va_A (WIN T v B O g ln un nx pl f0 f1 f2) sz) (WIN T v B O g ln un nx pl f0 f1 f2) t) (va_A (WIN T v B O g ln un nx pl f0 f1 f2) sz)) (vx_X (fun (_ : Unit) => True) (fun E _ t => (chkB (inN z N) "java/lang/IndexOutOfBoundsException") = some E ∧ QS D T (va_A (WIN T v B O g ln un nx pl f0 f1 f2) sz) (WIN T v B O g ln un nx pl f0 f1 f2) t) (va_A (WIN T v B O g ln un nx pl f0 f1 f2) sz)) 1 6 (va_A (WIN T v B O g ln un nx pl f0 f1 f2) sz) := by
  refine metXi (cc := cX9_isAnswered) (maxL := 2) (ty := .boolean) (by decide) rfl (by exact bI_nb _) (Nat.le_of_ble_eq_true rfl) ?_
  intro p e s m args below meth c Qc XC free ls A hx hb hml hown hts hC hP hK hD hA hS hl htab hlocks hfr hret hthr
  have hown : s.vm.findClass RX9 = some m.cls := hown
  have hl : lv_has ls 2 [(0, .ref (v 0)), (1, .int (z))] := hl
  have i3 : ∀ w ∈ wsX30, w ∈ wsX9_isAnswered := by decide +kernel
  have i5 : ∀ w ∈ wsX50, w ∈ wsX9_isAnswered := by decide +kernel
  have i9 : ∀ w ∈ wsX90, w ∈ wsX9_isAnswered := by decide +kernel
  have w1 := hts (Cond.fieldLink RX9 19 "MoonComplaintWindow" "office" "LMoonComplaintWindow$Office;") (List.mem_of_getElem? (i := 1) rfl)
  have w2 := hts (Cond.fieldLink RX9 107 "MoonComplaintWindow$Office" "pile" "LMoonComplaintWindow$Pile;") (List.mem_of_getElem? (i := 2) rfl)
  have w3 := hts (Cond.fieldLink RX9 188 "MoonComplaintWindow$Pile" "states" "[I") (List.mem_of_getElem? (i := 3) rfl)
  obtain ⟨hN, hN2, hKn, hK2, hCn, hC1, hC2, hn, hnt, hSK⟩ := id hOI
  refine lv_aload_n hx hb dX9_isAnswered_0 rfl (lv_at hl 0 rfl) ?_
  refine lv_iload_n hx hb dX9_isAnswered_1 rfl (lv_at hl 1 rfl) ?_
  refine wxVv (As := [.int (z)]) (rest := []) ⟨hx, hb, hml, hown, hts⟩ (c_X9_checkComplaint l hl9 D T aK aV v B O g ln un nx pl f0 f1 f2 z N K C nt hOI _) (cwV 1 hts gX9_isAnswered_X9_checkComplaint rfl rfl rfl (by decide +kernel) ⟨Nat.le_of_ble_eq_true rfl, Nat.le_of_ble_eq_true rfl⟩) (Foc.rfl _ _) (Foc.rfl _ _) hC hK hP hD hS hA 0 rfl rfl rfl hl.1 rfl (Nat.le_of_ble_eq_true rfl) ⟨Nat.le_of_ble_eq_true rfl, Nat.le_of_ble_eq_true rfl⟩ dX9_isAnswered_2 (fun E ce q9 H1 locs1 hE hP1 hD1 hS1 hce hcv hcl => vx_out (fun x hx => (htab x hx).elim) hlocks hce hcv hcl (fun t ht hv => hthr H1 locs1 E t (by first | exact hE | (simp only [orE, true_and, hE]; done) | (simp [orE, true_and, hE]; done)) hP1 hD1 hS1 hv (by rw [ht]; exact Nat.le_refl _) (fun q _ => by rw [ht])) (fun z hz => hfr _ (hS1.2.2 z hz)) (by decide) (by decide)) (fun H locs x2 hP hD hS => ?_)
  have hP : va_P D vwCl (WIN T v B O g ln un nx pl f0 f1 f2) H := hP
  have hD : va_D A (WIN T v B O g ln un nx pl f0 f1 f2) := hD
  have h2r := chkB_t x2
  obtain ⟨j, hj, hjz, hjc⟩ := inN_t (by omega) h2r
  rw [hjz] at hl
  have hl : lv_has ls 2 [(0, .ref (v 0)), (1, .int (nI j))] := hl
  refine lv_aload_n hx hb dX9_isAnswered_5 rfl (lv_at hl 0 rfl) ?_
  refine va_get (D := D) (ci := 9) (v := .ref ((B 0) 0)) (C := RX9) (T := TX9) (N := 6) hx hb hts i9 hown hK hP 0 rfl rfl 1 (by decide) w1 (fun _ h9 => h9) rfl dX9_isAnswered_6 ?_
  refine va_get (D := D) (ci := 3) (v := .ref ((B 0) 6)) (C := RX3) (T := TX3) (N := 4) hx hb hts i3 hown hK hP (14 * 0 + 0 + 11) (WIN_get (by decide) (by decide) rfl) rfl 3 (by decide) w2 (fun _ h9 => h9) rfl dX9_isAnswered_9 ?_
  refine va_get (D := D) (ci := 5) (v := .ref ((B 0) 11)) (C := RX5) (T := TX5) (N := 8) hx hb hts i5 hown hK hP (14 * 0 + 6 + 11) (WIN_get (by decide) (by decide) rfl) rfl 5 (by decide) w3 (fun _ h9 => h9) rfl dX9_isAnswered_12 ?_
  refine lv_iload_n hx hb dX9_isAnswered_15 rfl (lv_at hl 1 rfl) ?_
  refine aldI hx hb hK hP (14 * 0 + 11 + 11) 0 (WIN_get (by decide) (by decide) rfl) rfl (j) rfl (by omega) (by decide) dX9_isAnswered_16 ?_
  refine endI (r := ((O 0) 8) j) rfl ?_
  refine lv_iconst (v := 1) hx hb dX9_isAnswered_17 (by decide) ?_
  refine lv_icmp_ne (tgt := 25) hx hb dX9_isAnswered_18 (by decide) (fun c18 => ?_) (fun c18 => ?_)
  ·
    refine lv_iconst (v := 0) hx hb dX9_isAnswered_25 (by decide) ?_
    refine endI (r := bI (decide ((O 0) 8 z.toNatClampNeg = 1))) (by rw [hjc]; simp [bI, x2, c18]) ?_
    exact hret _ _ _ _ _ _ dX9_isAnswered_26 (by first | rfl | (simp only [orE, x2, c18]; done) | (simp only [orE, x2, c18] <;> simp [chkB, x2, c18]; done) | (simp [orE, chkB, x2, c18]; done) | ((first | have x2x := Int32.not_lt.mp x2 | have x2x := Int32.not_le.mp x2 | have x2x := Int32.not_lt.mpr x2 | have x2x := Int32.not_le.mpr x2 | have x2x := x2); (first | have c18x := Int32.not_lt.mp c18 | have c18x := Int32.not_le.mp c18 | have c18x := Int32.not_lt.mpr c18 | have c18x := Int32.not_le.mpr c18 | have c18x := c18); simp [orE, chkB, x2, c18, x2x, c18x]; done)) hP hD hS (by decide) (by decide)
  ·
    refine lv_iconst (v := 1) hx hb dX9_isAnswered_21 (by decide) ?_
    refine lv_goto (tgt := 26) hx hb dX9_isAnswered_22 (by decide) ?_
    refine endI (r := bI (decide ((O 0) 8 z.toNatClampNeg = 1))) (by rw [hjc]; simp [bI, x2, c18]) ?_
    exact hret _ _ _ _ _ _ dX9_isAnswered_26 (by first | rfl | (simp only [orE, x2, c18]; done) | (simp only [orE, x2, c18] <;> simp [chkB, x2, c18]; done) | (simp [orE, chkB, x2, c18]; done) | ((first | have x2x := Int32.not_lt.mp x2 | have x2x := Int32.not_le.mp x2 | have x2x := Int32.not_lt.mpr x2 | have x2x := Int32.not_le.mpr x2 | have x2x := x2); (first | have c18x := Int32.not_lt.mp c18 | have c18x := Int32.not_le.mp c18 | have c18x := Int32.not_lt.mpr c18 | have c18x := Int32.not_le.mpr c18 | have c18x := c18); simp [orE, chkB, x2, c18, x2x, c18x]; done)) hP hD hS (by decide) (by decide)

set_option maxHeartbeats 4000000 in
set_option maxRecDepth 100000 in
theorem c_X9_isDismissed (l : Launch) (hl9 : l.stackTraces = false) (D : va_G) (T : Nat → ClassId) (aK aV : Nat → Nat) (v : Nat → Nat) (B : Nat → Nat → Nat) (O : Nat → Nat → Nat → Int32) (g : CSt) (ln un nx pl : Nat) (f0 f1 f2 : Nat → Int32) (z : Int32) (N : Nat) (K : Nat) (C : Nat) (nt : Nat) (hOI : OI (O 0) N K C nt) (sz : Nat) : vx_Met l yX9_isDismissed wsX9_isDismissed ({ frames := 7, cells := 1, slots := 6, locals := 111 } : Room) (va_Pc [.ref (v 0), .int (z)] (PSc D T aK aV (WIN T v B O g ln un nx pl f0 f1 f2) sz)) (va_Qi (fun r9 (_ : Unit) => (chkB (inN z N) "java/lang/IndexOutOfBoundsException") = none ∧ r9 = (bI (decide ((O 0) 8 z.toNatClampNeg = 2)))) (fun _ t => QS D T (va_A (WIN T v B O g ln un nx pl f0 f1 f2) sz) (WIN T v B O g ln un nx pl f0 f1 f2) t) (va_A (WIN T v B O g ln un nx pl f0 f1 f2) sz)) (vx_X (fun (_ : Unit) => True) (fun E _ t => (chkB (inN z N) "java/lang/IndexOutOfBoundsException") = some E ∧ QS D T (va_A (WIN T v B O g ln un nx pl f0 f1 f2) sz) (WIN T v B O g ln un nx pl f0 f1 f2) t) (va_A (WIN T v B O g ln un nx pl f0 f1 f2) sz)) 1 6 (va_A (WIN T v B O g ln un nx pl f0 f1 f2) sz) := by
  refine metXi (cc := cX9_isDismissed) (maxL := 2) (ty := .boolean) (by decide) rfl (by exact bI_nb _) (Nat.le_of_ble_eq_true rfl) ?_
  intro p e s m args below meth c Qc XC free ls A hx hb hml hown hts hC hP hK hD hA hS hl htab hlocks hfr hret hthr
  have hown : s.vm.findClass RX9 = some m.cls := hown
  have hl : lv_has ls 2 [(0, .ref (v 0)), (1, .int (z))] := hl
  have i3 : ∀ w ∈ wsX30, w ∈ wsX9_isDismissed := by decide +kernel
  have i5 : ∀ w ∈ wsX50, w ∈ wsX9_isDismissed := by decide +kernel
  have i9 : ∀ w ∈ wsX90, w ∈ wsX9_isDismissed := by decide +kernel
  have w1 := hts (Cond.fieldLink RX9 19 "MoonComplaintWindow" "office" "LMoonComplaintWindow$Office;") (List.mem_of_getElem? (i := 1) rfl)
  have w2 := hts (Cond.fieldLink RX9 107 "MoonComplaintWindow$Office" "pile" "LMoonComplaintWindow$Pile;") (List.mem_of_getElem? (i := 2) rfl)
  have w3 := hts (Cond.fieldLink RX9 188 "MoonComplaintWindow$Pile" "states" "[I") (List.mem_of_getElem? (i := 3) rfl)
  obtain ⟨hN, hN2, hKn, hK2, hCn, hC1, hC2, hn, hnt, hSK⟩ := id hOI
  refine lv_aload_n hx hb dX9_isDismissed_0 rfl (lv_at hl 0 rfl) ?_
  refine lv_iload_n hx hb dX9_isDismissed_1 rfl (lv_at hl 1 rfl) ?_
  refine wxVv (As := [.int (z)]) (rest := []) ⟨hx, hb, hml, hown, hts⟩ (c_X9_checkComplaint l hl9 D T aK aV v B O g ln un nx pl f0 f1 f2 z N K C nt hOI _) (cwV 1 hts gX9_isDismissed_X9_checkComplaint rfl rfl rfl (by decide +kernel) ⟨Nat.le_of_ble_eq_true rfl, Nat.le_of_ble_eq_true rfl⟩) (Foc.rfl _ _) (Foc.rfl _ _) hC hK hP hD hS hA 0 rfl rfl rfl hl.1 rfl (Nat.le_of_ble_eq_true rfl) ⟨Nat.le_of_ble_eq_true rfl, Nat.le_of_ble_eq_true rfl⟩ dX9_isDismissed_2 (fun E ce q9 H1 locs1 hE hP1 hD1 hS1 hce hcv hcl => vx_out (fun x hx => (htab x hx).elim) hlocks hce hcv hcl (fun t ht hv => hthr H1 locs1 E t (by first | exact hE | (simp only [orE, true_and, hE]; done) | (simp [orE, true_and, hE]; done)) hP1 hD1 hS1 hv (by rw [ht]; exact Nat.le_refl _) (fun q _ => by rw [ht])) (fun z hz => hfr _ (hS1.2.2 z hz)) (by decide) (by decide)) (fun H locs x2 hP hD hS => ?_)
  have hP : va_P D vwCl (WIN T v B O g ln un nx pl f0 f1 f2) H := hP
  have hD : va_D A (WIN T v B O g ln un nx pl f0 f1 f2) := hD
  have h2r := chkB_t x2
  obtain ⟨j, hj, hjz, hjc⟩ := inN_t (by omega) h2r
  rw [hjz] at hl
  have hl : lv_has ls 2 [(0, .ref (v 0)), (1, .int (nI j))] := hl
  refine lv_aload_n hx hb dX9_isDismissed_5 rfl (lv_at hl 0 rfl) ?_
  refine va_get (D := D) (ci := 9) (v := .ref ((B 0) 0)) (C := RX9) (T := TX9) (N := 6) hx hb hts i9 hown hK hP 0 rfl rfl 1 (by decide) w1 (fun _ h9 => h9) rfl dX9_isDismissed_6 ?_
  refine va_get (D := D) (ci := 3) (v := .ref ((B 0) 6)) (C := RX3) (T := TX3) (N := 4) hx hb hts i3 hown hK hP (14 * 0 + 0 + 11) (WIN_get (by decide) (by decide) rfl) rfl 3 (by decide) w2 (fun _ h9 => h9) rfl dX9_isDismissed_9 ?_
  refine va_get (D := D) (ci := 5) (v := .ref ((B 0) 11)) (C := RX5) (T := TX5) (N := 8) hx hb hts i5 hown hK hP (14 * 0 + 6 + 11) (WIN_get (by decide) (by decide) rfl) rfl 5 (by decide) w3 (fun _ h9 => h9) rfl dX9_isDismissed_12 ?_
  refine lv_iload_n hx hb dX9_isDismissed_15 rfl (lv_at hl 1 rfl) ?_
  refine aldI hx hb hK hP (14 * 0 + 11 + 11) 0 (WIN_get (by decide) (by decide) rfl) rfl (j) rfl (by omega) (by decide) dX9_isDismissed_16 ?_
  refine endI (r := ((O 0) 8) j) rfl ?_
  refine lv_iconst (v := 2) hx hb dX9_isDismissed_17 (by decide) ?_
  refine lv_icmp_ne (tgt := 25) hx hb dX9_isDismissed_18 (by decide) (fun c18 => ?_) (fun c18 => ?_)
  ·
    refine lv_iconst (v := 0) hx hb dX9_isDismissed_25 (by decide) ?_
    refine endI (r := bI (decide ((O 0) 8 z.toNatClampNeg = 2))) (by rw [hjc]; simp [bI, x2, c18]) ?_
    exact hret _ _ _ _ _ _ dX9_isDismissed_26 (by first | rfl | (simp only [orE, x2, c18]; done) | (simp only [orE, x2, c18] <;> simp [chkB, x2, c18]; done) | (simp [orE, chkB, x2, c18]; done) | ((first | have x2x := Int32.not_lt.mp x2 | have x2x := Int32.not_le.mp x2 | have x2x := Int32.not_lt.mpr x2 | have x2x := Int32.not_le.mpr x2 | have x2x := x2); (first | have c18x := Int32.not_lt.mp c18 | have c18x := Int32.not_le.mp c18 | have c18x := Int32.not_lt.mpr c18 | have c18x := Int32.not_le.mpr c18 | have c18x := c18); simp [orE, chkB, x2, c18, x2x, c18x]; done)) hP hD hS (by decide) (by decide)
  ·
    refine lv_iconst (v := 1) hx hb dX9_isDismissed_21 (by decide) ?_
    refine lv_goto (tgt := 26) hx hb dX9_isDismissed_22 (by decide) ?_
    refine endI (r := bI (decide ((O 0) 8 z.toNatClampNeg = 2))) (by rw [hjc]; simp [bI, x2, c18]) ?_
    exact hret _ _ _ _ _ _ dX9_isDismissed_26 (by first | rfl | (simp only [orE, x2, c18]; done) | (simp only [orE, x2, c18] <;> simp [chkB, x2, c18]; done) | (simp [orE, chkB, x2, c18]; done) | ((first | have x2x := Int32.not_lt.mp x2 | have x2x := Int32.not_le.mp x2 | have x2x := Int32.not_lt.mpr x2 | have x2x := Int32.not_le.mpr x2 | have x2x := x2); (first | have c18x := Int32.not_lt.mp c18 | have c18x := Int32.not_le.mp c18 | have c18x := Int32.not_lt.mpr c18 | have c18x := Int32.not_le.mpr c18 | have c18x := c18); simp [orE, chkB, x2, c18, x2x, c18x]; done)) hP hD hS (by decide) (by decide)

set_option maxHeartbeats 4000000 in
set_option maxRecDepth 100000 in
theorem c_X9_isGivenUp (l : Launch) (hl9 : l.stackTraces = false) (D : va_G) (T : Nat → ClassId) (aK aV : Nat → Nat) (v : Nat → Nat) (B : Nat → Nat → Nat) (O : Nat → Nat → Nat → Int32) (g : CSt) (ln un nx pl : Nat) (f0 f1 f2 : Nat → Int32) (z : Int32) (N : Nat) (K : Nat) (C : Nat) (nt : Nat) (hOI : OI (O 0) N K C nt) (sz : Nat) : vx_Met l yX9_isGivenUp wsX9_isGivenUp ({ frames := 7, cells := 1, slots := 6, locals := 111 } : Room) (va_Pc [.ref (v 0), .int (z)] (PSc D T aK aV (WIN T v B O g ln un nx pl f0 f1 f2) sz)) (va_Qi (fun r9 (_ : Unit) => (chkB (inN z N) "java/lang/IndexOutOfBoundsException") = none ∧ r9 = (bI (decide ((O 0) 8 z.toNatClampNeg = 3)))) (fun _ t => QS D T (va_A (WIN T v B O g ln un nx pl f0 f1 f2) sz) (WIN T v B O g ln un nx pl f0 f1 f2) t) (va_A (WIN T v B O g ln un nx pl f0 f1 f2) sz)) (vx_X (fun (_ : Unit) => True) (fun E _ t => (chkB (inN z N) "java/lang/IndexOutOfBoundsException") = some E ∧ QS D T (va_A (WIN T v B O g ln un nx pl f0 f1 f2) sz) (WIN T v B O g ln un nx pl f0 f1 f2) t) (va_A (WIN T v B O g ln un nx pl f0 f1 f2) sz)) 1 6 (va_A (WIN T v B O g ln un nx pl f0 f1 f2) sz) := by
  refine metXi (cc := cX9_isGivenUp) (maxL := 2) (ty := .boolean) (by decide) rfl (by exact bI_nb _) (Nat.le_of_ble_eq_true rfl) ?_
  intro p e s m args below meth c Qc XC free ls A hx hb hml hown hts hC hP hK hD hA hS hl htab hlocks hfr hret hthr
  have hown : s.vm.findClass RX9 = some m.cls := hown
  have hl : lv_has ls 2 [(0, .ref (v 0)), (1, .int (z))] := hl
  have i3 : ∀ w ∈ wsX30, w ∈ wsX9_isGivenUp := by decide +kernel
  have i5 : ∀ w ∈ wsX50, w ∈ wsX9_isGivenUp := by decide +kernel
  have i9 : ∀ w ∈ wsX90, w ∈ wsX9_isGivenUp := by decide +kernel
  have w1 := hts (Cond.fieldLink RX9 19 "MoonComplaintWindow" "office" "LMoonComplaintWindow$Office;") (List.mem_of_getElem? (i := 1) rfl)
  have w2 := hts (Cond.fieldLink RX9 107 "MoonComplaintWindow$Office" "pile" "LMoonComplaintWindow$Pile;") (List.mem_of_getElem? (i := 2) rfl)
  have w3 := hts (Cond.fieldLink RX9 188 "MoonComplaintWindow$Pile" "states" "[I") (List.mem_of_getElem? (i := 3) rfl)
  obtain ⟨hN, hN2, hKn, hK2, hCn, hC1, hC2, hn, hnt, hSK⟩ := id hOI
  refine lv_aload_n hx hb dX9_isGivenUp_0 rfl (lv_at hl 0 rfl) ?_
  refine lv_iload_n hx hb dX9_isGivenUp_1 rfl (lv_at hl 1 rfl) ?_
  refine wxVv (As := [.int (z)]) (rest := []) ⟨hx, hb, hml, hown, hts⟩ (c_X9_checkComplaint l hl9 D T aK aV v B O g ln un nx pl f0 f1 f2 z N K C nt hOI _) (cwV 1 hts gX9_isGivenUp_X9_checkComplaint rfl rfl rfl (by decide +kernel) ⟨Nat.le_of_ble_eq_true rfl, Nat.le_of_ble_eq_true rfl⟩) (Foc.rfl _ _) (Foc.rfl _ _) hC hK hP hD hS hA 0 rfl rfl rfl hl.1 rfl (Nat.le_of_ble_eq_true rfl) ⟨Nat.le_of_ble_eq_true rfl, Nat.le_of_ble_eq_true rfl⟩ dX9_isGivenUp_2 (fun E ce q9 H1 locs1 hE hP1 hD1 hS1 hce hcv hcl => vx_out (fun x hx => (htab x hx).elim) hlocks hce hcv hcl (fun t ht hv => hthr H1 locs1 E t (by first | exact hE | (simp only [orE, true_and, hE]; done) | (simp [orE, true_and, hE]; done)) hP1 hD1 hS1 hv (by rw [ht]; exact Nat.le_refl _) (fun q _ => by rw [ht])) (fun z hz => hfr _ (hS1.2.2 z hz)) (by decide) (by decide)) (fun H locs x2 hP hD hS => ?_)
  have hP : va_P D vwCl (WIN T v B O g ln un nx pl f0 f1 f2) H := hP
  have hD : va_D A (WIN T v B O g ln un nx pl f0 f1 f2) := hD
  have h2r := chkB_t x2
  obtain ⟨j, hj, hjz, hjc⟩ := inN_t (by omega) h2r
  rw [hjz] at hl
  have hl : lv_has ls 2 [(0, .ref (v 0)), (1, .int (nI j))] := hl
  refine lv_aload_n hx hb dX9_isGivenUp_5 rfl (lv_at hl 0 rfl) ?_
  refine va_get (D := D) (ci := 9) (v := .ref ((B 0) 0)) (C := RX9) (T := TX9) (N := 6) hx hb hts i9 hown hK hP 0 rfl rfl 1 (by decide) w1 (fun _ h9 => h9) rfl dX9_isGivenUp_6 ?_
  refine va_get (D := D) (ci := 3) (v := .ref ((B 0) 6)) (C := RX3) (T := TX3) (N := 4) hx hb hts i3 hown hK hP (14 * 0 + 0 + 11) (WIN_get (by decide) (by decide) rfl) rfl 3 (by decide) w2 (fun _ h9 => h9) rfl dX9_isGivenUp_9 ?_
  refine va_get (D := D) (ci := 5) (v := .ref ((B 0) 11)) (C := RX5) (T := TX5) (N := 8) hx hb hts i5 hown hK hP (14 * 0 + 6 + 11) (WIN_get (by decide) (by decide) rfl) rfl 5 (by decide) w3 (fun _ h9 => h9) rfl dX9_isGivenUp_12 ?_
  refine lv_iload_n hx hb dX9_isGivenUp_15 rfl (lv_at hl 1 rfl) ?_
  refine aldI hx hb hK hP (14 * 0 + 11 + 11) 0 (WIN_get (by decide) (by decide) rfl) rfl (j) rfl (by omega) (by decide) dX9_isGivenUp_16 ?_
  refine endI (r := ((O 0) 8) j) rfl ?_
  refine lv_iconst (v := 3) hx hb dX9_isGivenUp_17 (by decide) ?_
  refine lv_icmp_ne (tgt := 25) hx hb dX9_isGivenUp_18 (by decide) (fun c18 => ?_) (fun c18 => ?_)
  ·
    refine lv_iconst (v := 0) hx hb dX9_isGivenUp_25 (by decide) ?_
    refine endI (r := bI (decide ((O 0) 8 z.toNatClampNeg = 3))) (by rw [hjc]; simp [bI, x2, c18]) ?_
    exact hret _ _ _ _ _ _ dX9_isGivenUp_26 (by first | rfl | (simp only [orE, x2, c18]; done) | (simp only [orE, x2, c18] <;> simp [chkB, x2, c18]; done) | (simp [orE, chkB, x2, c18]; done) | ((first | have x2x := Int32.not_lt.mp x2 | have x2x := Int32.not_le.mp x2 | have x2x := Int32.not_lt.mpr x2 | have x2x := Int32.not_le.mpr x2 | have x2x := x2); (first | have c18x := Int32.not_lt.mp c18 | have c18x := Int32.not_le.mp c18 | have c18x := Int32.not_lt.mpr c18 | have c18x := Int32.not_le.mpr c18 | have c18x := c18); simp [orE, chkB, x2, c18, x2x, c18x]; done)) hP hD hS (by decide) (by decide)
  ·
    refine lv_iconst (v := 1) hx hb dX9_isGivenUp_21 (by decide) ?_
    refine lv_goto (tgt := 26) hx hb dX9_isGivenUp_22 (by decide) ?_
    refine endI (r := bI (decide ((O 0) 8 z.toNatClampNeg = 3))) (by rw [hjc]; simp [bI, x2, c18]) ?_
    exact hret _ _ _ _ _ _ dX9_isGivenUp_26 (by first | rfl | (simp only [orE, x2, c18]; done) | (simp only [orE, x2, c18] <;> simp [chkB, x2, c18]; done) | (simp [orE, chkB, x2, c18]; done) | ((first | have x2x := Int32.not_lt.mp x2 | have x2x := Int32.not_le.mp x2 | have x2x := Int32.not_lt.mpr x2 | have x2x := Int32.not_le.mpr x2 | have x2x := x2); (first | have c18x := Int32.not_lt.mp c18 | have c18x := Int32.not_le.mp c18 | have c18x := Int32.not_lt.mpr c18 | have c18x := Int32.not_le.mpr c18 | have c18x := c18); simp [orE, chkB, x2, c18, x2x, c18x]; done)) hP hD hS (by decide) (by decide)

set_option maxHeartbeats 4000000 in
set_option maxRecDepth 100000 in
theorem c_X9_closedIn (l : Launch) (hl9 : l.stackTraces = false) (D : va_G) (T : Nat → ClassId) (aK aV : Nat → Nat) (v : Nat → Nat) (B : Nat → Nat → Nat) (O : Nat → Nat → Nat → Int32) (g : CSt) (ln un nx pl : Nat) (f0 f1 f2 : Nat → Int32) (z : Int32) (N : Nat) (K : Nat) (C : Nat) (nt : Nat) (hOI : OI (O 0) N K C nt) (sz : Nat) : vx_Met l yX9_closedIn wsX9_closedIn ({ frames := 7, cells := 2, slots := 12, locals := 111 } : Room) (va_Pc [.ref (v 0), .int (z)] (PSc D T aK aV (WIN T v B O g ln un nx pl f0 f1 f2) sz)) (va_Qi (fun r9 (_ : Unit) => (orE (chkB (inN z N) "java/lang/IndexOutOfBoundsException") (chkB (!decide ((O 0) 8 z.toNatClampNeg = 0)) "java/util/NoSuchElementException")) = none ∧ r9 = ((O 0) 9 z.toNatClampNeg)) (fun _ t => QS D T (va_A (WIN T v B O g ln un nx pl f0 f1 f2) sz) (WIN T v B O g ln un nx pl f0 f1 f2) t) (va_A (WIN T v B O g ln un nx pl f0 f1 f2) sz)) (vx_X (fun (_ : Unit) => True) (fun E _ t => (orE (chkB (inN z N) "java/lang/IndexOutOfBoundsException") (chkB (!decide ((O 0) 8 z.toNatClampNeg = 0)) "java/util/NoSuchElementException")) = some E ∧ QS D T (va_A (WIN T v B O g ln un nx pl f0 f1 f2) sz) (WIN T v B O g ln un nx pl f0 f1 f2) t) (va_A (WIN T v B O g ln un nx pl f0 f1 f2) sz)) 2 12 (va_A (WIN T v B O g ln un nx pl f0 f1 f2) sz) := by
  refine metXi (cc := cX9_closedIn) (maxL := 2) (ty := .int) (by decide) rfl (by rfl) (Nat.le_of_ble_eq_true rfl) ?_
  intro p e s m args below meth c Qc XC free ls A hx hb hml hown hts hC hP hK hD hA hS hl htab hlocks hfr hret hthr
  have hown : s.vm.findClass RX9 = some m.cls := hown
  have hl : lv_has ls 2 [(0, .ref (v 0)), (1, .int (z))] := hl
  have i3 : ∀ w ∈ wsX30, w ∈ wsX9_closedIn := by decide +kernel
  have i5 : ∀ w ∈ wsX50, w ∈ wsX9_closedIn := by decide +kernel
  have i9 : ∀ w ∈ wsX90, w ∈ wsX9_closedIn := by decide +kernel
  have w1 := hts (Cond.classLink RX9 116 "java/util/NoSuchElementException") (List.mem_of_getElem? (i := 1) rfl)
  have w2 := hts (Cond.initialized "java/util/NoSuchElementException") (List.mem_of_getElem? (i := 2) rfl)
  have w3 := hts (Cond.fieldLink RX9 19 "MoonComplaintWindow" "office" "LMoonComplaintWindow$Office;") (List.mem_of_getElem? (i := 3) rfl)
  have w4 := hts (Cond.fieldLink RX9 107 "MoonComplaintWindow$Office" "pile" "LMoonComplaintWindow$Pile;") (List.mem_of_getElem? (i := 4) rfl)
  have w5 := hts (Cond.fieldLink RX9 188 "MoonComplaintWindow$Pile" "states" "[I") (List.mem_of_getElem? (i := 5) rfl)
  have w6 := hts (Cond.fieldLink RX9 193 "MoonComplaintWindow$Pile" "closed" "[I") (List.mem_of_getElem? (i := 6) rfl)
  obtain ⟨hN, hN2, hKn, hK2, hCn, hC1, hC2, hn, hnt, hSK⟩ := id hOI
  refine lv_aload_n hx hb dX9_closedIn_0 rfl (lv_at hl 0 rfl) ?_
  refine lv_iload_n hx hb dX9_closedIn_1 rfl (lv_at hl 1 rfl) ?_
  refine wxVv (As := [.int (z)]) (rest := []) ⟨hx, hb, hml, hown, hts⟩ (c_X9_checkComplaint l hl9 D T aK aV v B O g ln un nx pl f0 f1 f2 z N K C nt hOI _) (cwV 1 hts gX9_closedIn_X9_checkComplaint rfl rfl rfl (by decide +kernel) ⟨Nat.le_of_ble_eq_true rfl, Nat.le_of_ble_eq_true rfl⟩) (Foc.rfl _ _) (Foc.rfl _ _) hC hK hP hD hS hA 0 rfl rfl rfl hl.1 rfl (Nat.le_of_ble_eq_true rfl) ⟨Nat.le_of_ble_eq_true rfl, Nat.le_of_ble_eq_true rfl⟩ dX9_closedIn_2 (fun E ce q9 H1 locs1 hE hP1 hD1 hS1 hce hcv hcl => vx_out (fun x hx => (htab x hx).elim) hlocks hce hcv hcl (fun t ht hv => hthr H1 locs1 E t (by first | exact hE | (simp only [orE, true_and, hE]; done) | (simp [orE, true_and, hE]; done)) hP1 hD1 hS1 hv (by rw [ht]; exact Nat.le_refl _) (fun q _ => by rw [ht])) (fun z hz => hfr _ (hS1.2.2 z hz)) (by decide) (by decide)) (fun H locs x2 hP hD hS => ?_)
  have hP : va_P D vwCl (WIN T v B O g ln un nx pl f0 f1 f2) H := hP
  have hD : va_D A (WIN T v B O g ln un nx pl f0 f1 f2) := hD
  have h2r := chkB_t x2
  obtain ⟨j, hj, hjz, hjc⟩ := inN_t (by omega) h2r
  rw [hjz] at hl
  have hl : lv_has ls 2 [(0, .ref (v 0)), (1, .int (nI j))] := hl
  refine lv_aload_n hx hb dX9_closedIn_5 rfl (lv_at hl 0 rfl) ?_
  refine va_get (D := D) (ci := 9) (v := .ref ((B 0) 0)) (C := RX9) (T := TX9) (N := 6) hx hb hts i9 hown hK hP 0 rfl rfl 1 (by decide) w3 (fun _ h9 => h9) rfl dX9_closedIn_6 ?_
  refine va_get (D := D) (ci := 3) (v := .ref ((B 0) 6)) (C := RX3) (T := TX3) (N := 4) hx hb hts i3 hown hK hP (14 * 0 + 0 + 11) (WIN_get (by decide) (by decide) rfl) rfl 3 (by decide) w4 (fun _ h9 => h9) rfl dX9_closedIn_9 ?_
  refine va_get (D := D) (ci := 5) (v := .ref ((B 0) 11)) (C := RX5) (T := TX5) (N := 8) hx hb hts i5 hown hK hP (14 * 0 + 6 + 11) (WIN_get (by decide) (by decide) rfl) rfl 5 (by decide) w5 (fun _ h9 => h9) rfl dX9_closedIn_12 ?_
  refine lv_iload_n hx hb dX9_closedIn_15 rfl (lv_at hl 1 rfl) ?_
  refine aldI hx hb hK hP (14 * 0 + 11 + 11) 0 (WIN_get (by decide) (by decide) rfl) rfl (j) rfl (by omega) (by decide) dX9_closedIn_16 ?_
  refine endI (r := ((O 0) 8) j) rfl ?_
  refine lv_if_ne (tgt := 30) hx hb dX9_closedIn_17 (by decide) (fun c17 => ?_) (fun c17 => ?_)
  ·
    refine lv_aload_n hx hb dX9_closedIn_30 rfl (lv_at hl 0 rfl) ?_
    refine va_get (D := D) (ci := 9) (v := .ref ((B 0) 0)) (C := RX9) (T := TX9) (N := 6) hx hb hts i9 hown hK hP 0 rfl rfl 1 (by decide) w3 (fun _ h9 => h9) rfl dX9_closedIn_31 ?_
    refine va_get (D := D) (ci := 3) (v := .ref ((B 0) 6)) (C := RX3) (T := TX3) (N := 4) hx hb hts i3 hown hK hP (14 * 0 + 0 + 11) (WIN_get (by decide) (by decide) rfl) rfl 3 (by decide) w4 (fun _ h9 => h9) rfl dX9_closedIn_34 ?_
    refine va_get (D := D) (ci := 5) (v := .ref ((B 0) 12)) (C := RX5) (T := TX5) (N := 8) hx hb hts i5 hown hK hP (14 * 0 + 6 + 11) (WIN_get (by decide) (by decide) rfl) rfl 6 (by decide) w6 (fun _ h9 => h9) rfl dX9_closedIn_37 ?_
    refine lv_iload_n hx hb dX9_closedIn_40 rfl (lv_at hl 1 rfl) ?_
    refine aldI hx hb hK hP (14 * 0 + 12 + 11) 0 (WIN_get (by decide) (by decide) rfl) rfl (j) rfl (by omega) (by decide) dX9_closedIn_41 ?_
    refine endI (r := ((O 0) 9) j) rfl ?_
    refine endI (r := (O 0) 9 z.toNatClampNeg) (by rw [hjc]; done) ?_
    exact hret _ _ _ _ _ _ dX9_closedIn_42 (by rw [x2, hjc]; simp [orE, chkB, c17]) hP hD hS (by decide) (by decide)
  ·
    exact vx_throwN (cls := "java/util/NoSuchElementException") (names := supL) (text := "the complaint is waiting") (sa := aK 14) hx hb hl9 hown (by decide +kernel) (by decide +kernel) w1 w2 (show vk_R RX9 191 "the complaint is waiting" (aK 14) s from hC.2.1 14 (by decide)) (vx_hat (B := badW "java/util/NoSuchElementException") (fun w hw => hts w (List.mem_cons_of_mem _ (List.mem_append_left _ (List.mem_append_right _ hw)))) tb_120 (hC.2.2.2.2.use (by decide +kernel))) tg_120 hC.2.2.1 hC.2.2.2.1 hS (hl.1.trans hml.symm) dX9_closedIn_20 dX9_closedIn_23 dX9_closedIn_24 dX9_closedIn_26 dX9_closedIn_29 (fun x hx => (htab x hx).elim) (by decide) (Nat.le_of_ble_eq_true rfl) (Nat.le_of_ble_eq_true rfl) (Nat.le_of_ble_eq_true rfl) hlocks (fun t hv hz hk => hthr _ _ _ t (by rw [x2, hjc]; simp [orE, chkB, c17]) hP hD hS hv hz hk) (fun z hz => hfr _ (hS.2.2 z hz)) (by decide) (by decide)

set_option maxHeartbeats 4000000 in
set_option maxRecDepth 100000 in
theorem c_X9_clerkOf (l : Launch) (hl9 : l.stackTraces = false) (D : va_G) (T : Nat → ClassId) (aK aV : Nat → Nat) (v : Nat → Nat) (B : Nat → Nat → Nat) (O : Nat → Nat → Nat → Int32) (g : CSt) (ln un nx pl : Nat) (f0 f1 f2 : Nat → Int32) (z : Int32) (N : Nat) (K : Nat) (C : Nat) (nt : Nat) (hOI : OI (O 0) N K C nt) (sz : Nat) : vx_Met l yX9_clerkOf wsX9_clerkOf ({ frames := 7, cells := 2, slots := 12, locals := 111 } : Room) (va_Pc [.ref (v 0), .int (z)] (PSc D T aK aV (WIN T v B O g ln un nx pl f0 f1 f2) sz)) (va_Qi (fun r9 (_ : Unit) => (orE (chkB (inN z N) "java/lang/IndexOutOfBoundsException") (chkB (!decide ((O 0) 10 z.toNatClampNeg = -1)) "java/util/NoSuchElementException")) = none ∧ r9 = ((O 0) 10 z.toNatClampNeg)) (fun _ t => QS D T (va_A (WIN T v B O g ln un nx pl f0 f1 f2) sz) (WIN T v B O g ln un nx pl f0 f1 f2) t) (va_A (WIN T v B O g ln un nx pl f0 f1 f2) sz)) (vx_X (fun (_ : Unit) => True) (fun E _ t => (orE (chkB (inN z N) "java/lang/IndexOutOfBoundsException") (chkB (!decide ((O 0) 10 z.toNatClampNeg = -1)) "java/util/NoSuchElementException")) = some E ∧ QS D T (va_A (WIN T v B O g ln un nx pl f0 f1 f2) sz) (WIN T v B O g ln un nx pl f0 f1 f2) t) (va_A (WIN T v B O g ln un nx pl f0 f1 f2) sz)) 2 12 (va_A (WIN T v B O g ln un nx pl f0 f1 f2) sz) := by
  refine metXi (cc := cX9_clerkOf) (maxL := 3) (ty := .int) (by decide) rfl (by rfl) (Nat.le_of_ble_eq_true rfl) ?_
  intro p e s m args below meth c Qc XC free ls A hx hb hml hown hts hC hP hK hD hA hS hl htab hlocks hfr hret hthr
  have hown : s.vm.findClass RX9 = some m.cls := hown
  have hl : lv_has ls 3 [(0, .ref (v 0)), (1, .int (z))] := hl
  have i3 : ∀ w ∈ wsX30, w ∈ wsX9_clerkOf := by decide +kernel
  have i5 : ∀ w ∈ wsX50, w ∈ wsX9_clerkOf := by decide +kernel
  have i9 : ∀ w ∈ wsX90, w ∈ wsX9_clerkOf := by decide +kernel
  have w1 := hts (Cond.classLink RX9 116 "java/util/NoSuchElementException") (List.mem_of_getElem? (i := 1) rfl)
  have w2 := hts (Cond.initialized "java/util/NoSuchElementException") (List.mem_of_getElem? (i := 2) rfl)
  have w3 := hts (Cond.fieldLink RX9 19 "MoonComplaintWindow" "office" "LMoonComplaintWindow$Office;") (List.mem_of_getElem? (i := 3) rfl)
  have w4 := hts (Cond.fieldLink RX9 107 "MoonComplaintWindow$Office" "pile" "LMoonComplaintWindow$Pile;") (List.mem_of_getElem? (i := 4) rfl)
  have w5 := hts (Cond.fieldLink RX9 196 "MoonComplaintWindow$Pile" "clerks" "[I") (List.mem_of_getElem? (i := 5) rfl)
  obtain ⟨hN, hN2, hKn, hK2, hCn, hC1, hC2, hn, hnt, hSK⟩ := id hOI
  refine lv_aload_n hx hb dX9_clerkOf_0 rfl (lv_at hl 0 rfl) ?_
  refine lv_iload_n hx hb dX9_clerkOf_1 rfl (lv_at hl 1 rfl) ?_
  refine wxVv (As := [.int (z)]) (rest := []) ⟨hx, hb, hml, hown, hts⟩ (c_X9_checkComplaint l hl9 D T aK aV v B O g ln un nx pl f0 f1 f2 z N K C nt hOI _) (cwV 1 hts gX9_clerkOf_X9_checkComplaint rfl rfl rfl (by decide +kernel) ⟨Nat.le_of_ble_eq_true rfl, Nat.le_of_ble_eq_true rfl⟩) (Foc.rfl _ _) (Foc.rfl _ _) hC hK hP hD hS hA 0 rfl rfl rfl hl.1 rfl (Nat.le_of_ble_eq_true rfl) ⟨Nat.le_of_ble_eq_true rfl, Nat.le_of_ble_eq_true rfl⟩ dX9_clerkOf_2 (fun E ce q9 H1 locs1 hE hP1 hD1 hS1 hce hcv hcl => vx_out (fun x hx => (htab x hx).elim) hlocks hce hcv hcl (fun t ht hv => hthr H1 locs1 E t (by first | exact hE | (simp only [orE, true_and, hE]; done) | (simp [orE, true_and, hE]; done)) hP1 hD1 hS1 hv (by rw [ht]; exact Nat.le_refl _) (fun q _ => by rw [ht])) (fun z hz => hfr _ (hS1.2.2 z hz)) (by decide) (by decide)) (fun H locs x2 hP hD hS => ?_)
  have hP : va_P D vwCl (WIN T v B O g ln un nx pl f0 f1 f2) H := hP
  have hD : va_D A (WIN T v B O g ln un nx pl f0 f1 f2) := hD
  have h2r := chkB_t x2
  obtain ⟨j, hj, hjz, hjc⟩ := inN_t (by omega) h2r
  rw [hjz] at hl
  have hl : lv_has ls 3 [(0, .ref (v 0)), (1, .int (nI j))] := hl
  refine lv_aload_n hx hb dX9_clerkOf_5 rfl (lv_at hl 0 rfl) ?_
  refine va_get (D := D) (ci := 9) (v := .ref ((B 0) 0)) (C := RX9) (T := TX9) (N := 6) hx hb hts i9 hown hK hP 0 rfl rfl 1 (by decide) w3 (fun _ h9 => h9) rfl dX9_clerkOf_6 ?_
  refine va_get (D := D) (ci := 3) (v := .ref ((B 0) 6)) (C := RX3) (T := TX3) (N := 4) hx hb hts i3 hown hK hP (14 * 0 + 0 + 11) (WIN_get (by decide) (by decide) rfl) rfl 3 (by decide) w4 (fun _ h9 => h9) rfl dX9_clerkOf_9 ?_
  refine va_get (D := D) (ci := 5) (v := .ref ((B 0) 13)) (C := RX5) (T := TX5) (N := 8) hx hb hts i5 hown hK hP (14 * 0 + 6 + 11) (WIN_get (by decide) (by decide) rfl) rfl 7 (by decide) w5 (fun _ h9 => h9) rfl dX9_clerkOf_12 ?_
  refine lv_iload_n hx hb dX9_clerkOf_15 rfl (lv_at hl 1 rfl) ?_
  refine aldI hx hb hK hP (14 * 0 + 13 + 11) 0 (WIN_get (by decide) (by decide) rfl) rfl (j) rfl (by omega) (by decide) dX9_clerkOf_16 ?_
  refine endI (r := ((O 0) 10) j) rfl ?_
  refine lv_istore_n (lv' := [(2, .int (((O 0) 10) j)), (0, .ref (v 0)), (1, .int (nI j))]) hx hb dX9_clerkOf_17 rfl hl (by decide) rfl (fun ls hl => ?_)
  refine lv_iload_n hx hb dX9_clerkOf_18 rfl (lv_at hl 0 rfl) ?_
  refine lv_iconst (v := -1) hx hb dX9_clerkOf_19 (by decide) ?_
  refine lv_icmp_ne (tgt := 33) hx hb dX9_clerkOf_20 (by decide) (fun c20 => ?_) (fun c20 => ?_)
  ·
    refine lv_iload_n hx hb dX9_clerkOf_33 rfl (lv_at hl 0 rfl) ?_
    refine endI (r := (O 0) 10 z.toNatClampNeg) (by rw [hjc]; done) ?_
    exact hret _ _ _ _ _ _ dX9_clerkOf_34 (by rw [x2, hjc]; simp [orE, chkB, c20]) hP hD hS (by decide) (by decide)
  ·
    exact vx_throwN (cls := "java/util/NoSuchElementException") (names := supL) (text := "no clerk closed the complaint") (sa := aK 15) hx hb hl9 hown (by decide +kernel) (by decide +kernel) w1 w2 (show vk_R RX9 199 "no clerk closed the complaint" (aK 15) s from hC.2.1 15 (by decide)) (vx_hat (B := badW "java/util/NoSuchElementException") (fun w hw => hts w (List.mem_cons_of_mem _ (List.mem_append_left _ (List.mem_append_right _ hw)))) tb_120 (hC.2.2.2.2.use (by decide +kernel))) tg_120 hC.2.2.1 hC.2.2.2.1 hS (hl.1.trans hml.symm) dX9_clerkOf_23 dX9_clerkOf_26 dX9_clerkOf_27 dX9_clerkOf_29 dX9_clerkOf_32 (fun x hx => (htab x hx).elim) (by decide) (Nat.le_of_ble_eq_true rfl) (Nat.le_of_ble_eq_true rfl) (Nat.le_of_ble_eq_true rfl) hlocks (fun t hv hz hk => hthr _ _ _ t (by rw [x2, hjc]; simp [orE, chkB, c20]) hP hD hS hv hz hk) (fun z hz => hfr _ (hS.2.2 z hz)) (by decide) (by decide)

set_option maxHeartbeats 4000000 in
set_option maxRecDepth 100000 in
theorem c_X9_waitingOf (l : Launch) (hl9 : l.stackTraces = false) (D : va_G) (T : Nat → ClassId) (aK aV : Nat → Nat) (v : Nat → Nat) (B : Nat → Nat → Nat) (O : Nat → Nat → Nat → Int32) (g : CSt) (ln un nx pl : Nat) (f0 f1 f2 : Nat → Int32) (z : Int32) (z1 : Int32) (N : Nat) (K : Nat) (C : Nat) (nt : Nat) (hOI : OI (O 0) N K C nt) (sz : Nat) : vx_Met l yX9_waitingOf wsX9_waitingOf ({ frames := 8, cells := 3, slots := 18, locals := 132 } : Room) (va_Pc [.ref (v 0), .int (z), .int (z1)] (PSc D T aK aV (WIN T v B O g ln un nx pl f0 f1 f2) sz)) (va_Qi (fun r9 (_ : Unit) => (orE (chkB (rg z 0 99) "java/lang/IllegalArgumentException") (orE (chkB (rg z1 0 3) "java/lang/IllegalArgumentException") (chkB ((findC (O 0) z z1 N).isSome) "java/util/NoSuchElementException"))) = none ∧ r9 = ((findC (O 0) z z1 N).elim 0 nI)) (fun _ t => QS D T (va_A (WIN T v B O g ln un nx pl f0 f1 f2) sz) (WIN T v B O g ln un nx pl f0 f1 f2) t) (va_A (WIN T v B O g ln un nx pl f0 f1 f2) sz)) (vx_X (fun (_ : Unit) => True) (fun E _ t => (orE (chkB (rg z 0 99) "java/lang/IllegalArgumentException") (orE (chkB (rg z1 0 3) "java/lang/IllegalArgumentException") (chkB ((findC (O 0) z z1 N).isSome) "java/util/NoSuchElementException"))) = some E ∧ QS D T (va_A (WIN T v B O g ln un nx pl f0 f1 f2) sz) (WIN T v B O g ln un nx pl f0 f1 f2) t) (va_A (WIN T v B O g ln un nx pl f0 f1 f2) sz)) 3 18 (va_A (WIN T v B O g ln un nx pl f0 f1 f2) sz) := by
  refine metXi (cc := cX9_waitingOf) (maxL := 4) (ty := .int) (by decide) rfl (by rfl) (Nat.le_of_ble_eq_true rfl) ?_
  intro p e s m args below meth c Qc XC free ls A hx hb hml hown hts hC hP hK hD hA hS hl htab hlocks hfr hret hthr
  have hown : s.vm.findClass RX9 = some m.cls := hown
  have hl : lv_has ls 4 [(0, .ref (v 0)), (1, .int (z)), (2, .int (z1))] := hl
  have i3 : ∀ w ∈ wsX30, w ∈ wsX9_waitingOf := by decide +kernel
  have i9 : ∀ w ∈ wsX90, w ∈ wsX9_waitingOf := by decide +kernel
  have w1 := hts (Cond.classLink RX9 116 "java/util/NoSuchElementException") (List.mem_of_getElem? (i := 1) rfl)
  have w2 := hts (Cond.initialized "java/util/NoSuchElementException") (List.mem_of_getElem? (i := 2) rfl)
  have w3 := hts (Cond.fieldLink RX9 19 "MoonComplaintWindow" "office" "LMoonComplaintWindow$Office;") (List.mem_of_getElem? (i := 3) rfl)
  have w4 := hts (Cond.fieldLink RX9 107 "MoonComplaintWindow$Office" "pile" "LMoonComplaintWindow$Pile;") (List.mem_of_getElem? (i := 4) rfl)
  obtain ⟨hN, hN2, hKn, hK2, hCn, hC1, hC2, hn, hnt, hSK⟩ := id hOI
  refine lv_iload_n hx hb dX9_waitingOf_0 rfl (lv_at hl 1 rfl) ?_
  refine lv_iconst (v := 0) hx hb dX9_waitingOf_1 (by decide) ?_
  refine lv_bipush (v := 99) hx hb dX9_waitingOf_2 (by decide) ?_
  refine wxSv (As := [.int (z), .int (0), .int (99)]) (rest := []) ⟨hx, hb, hml, hown, hts⟩ (c_X9_checkRange l hl9 D T aK aV z 0 99 _) (va_cwS 3 hts gX9_waitingOf_X9_checkRange rfl rfl rfl (by decide +kernel) ⟨Nat.le_of_ble_eq_true rfl, Nat.le_of_ble_eq_true rfl⟩) (Foc.nil _) (Foc.nil _) hC hK hP hD hS hA rfl hl.1 rfl (Nat.le_of_ble_eq_true rfl) ⟨Nat.le_of_ble_eq_true rfl, Nat.le_of_ble_eq_true rfl⟩ dX9_waitingOf_4 (fun E ce q9 H1 locs1 hE hP1 hD1 hS1 hce hcv hcl => vx_out (fun x hx => (htab x hx).elim) hlocks hce hcv hcl (fun t ht hv => hthr H1 locs1 E t (by first | exact hE | (simp only [orE, true_and, hE]; done) | (simp [orE, true_and, hE]; done)) hP1 hD1 hS1 hv (by rw [ht]; exact Nat.le_refl _) (fun q _ => by rw [ht])) (fun z hz => hfr _ (hS1.2.2 z hz)) (by decide) (by decide)) (fun H locs x4 hP hD hS => ?_)
  have hP : va_P D vwCl (WIN T v B O g ln un nx pl f0 f1 f2) H := hP
  have hD : va_D A (WIN T v B O g ln un nx pl f0 f1 f2) := hD
  refine lv_iload_n hx hb dX9_waitingOf_7 rfl (lv_at hl 2 rfl) ?_
  refine wxSv (As := [.int (z1)]) (rest := []) ⟨hx, hb, hml, hown, hts⟩ (c_X9_checkSort l hl9 D T aK aV z1 _) (va_cwS 1 hts gX9_waitingOf_X9_checkSort rfl rfl rfl (by decide +kernel) ⟨Nat.le_of_ble_eq_true rfl, Nat.le_of_ble_eq_true rfl⟩) (Foc.nil _) (Foc.nil _) hC hK hP hD hS hA rfl hl.1 rfl (Nat.le_of_ble_eq_true rfl) ⟨Nat.le_of_ble_eq_true rfl, Nat.le_of_ble_eq_true rfl⟩ dX9_waitingOf_8 (fun E ce q9 H1 locs1 hE hP1 hD1 hS1 hce hcv hcl => vx_out (fun x hx => (htab x hx).elim) hlocks hce hcv hcl (fun t ht hv => hthr H1 locs1 E t (by first | exact hE | (simp only [orE, x4, hE]; done) | (simp [orE, x4, hE]; done)) hP1 hD1 hS1 hv (by rw [ht]; exact Nat.le_refl _) (fun q _ => by rw [ht])) (fun z hz => hfr _ (hS1.2.2 z hz)) (by decide) (by decide)) (fun H locs x8 hP hD hS => ?_)
  have hP : va_P D vwCl (WIN T v B O g ln un nx pl f0 f1 f2) H := hP
  have hD : va_D A (WIN T v B O g ln un nx pl f0 f1 f2) := hD
  refine lv_aload_n hx hb dX9_waitingOf_11 rfl (lv_at hl 0 rfl) ?_
  refine va_get (D := D) (ci := 9) (v := .ref ((B 0) 0)) (C := RX9) (T := TX9) (N := 6) hx hb hts i9 hown hK hP 0 rfl rfl 1 (by decide) w3 (fun _ h9 => h9) rfl dX9_waitingOf_12 ?_
  refine va_get (D := D) (ci := 3) (v := .ref ((B 0) 6)) (C := RX3) (T := TX3) (N := 4) hx hb hts i3 hown hK hP (14 * 0 + 0 + 11) (WIN_get (by decide) (by decide) rfl) rfl 3 (by decide) w4 (fun _ h9 => h9) rfl dX9_waitingOf_15 ?_
  refine lv_iload_n hx hb dX9_waitingOf_18 rfl (lv_at hl 1 rfl) ?_
  refine lv_iload_n hx hb dX9_waitingOf_19 rfl (lv_at hl 2 rfl) ?_
  refine rdV (As := [.int (z), .int (z1)]) (rest := []) ⟨hx, hb, hml, hown, hts⟩ (c_X5_findWaiting l D T (B 0) (O 0) z z1 N hN hN2) (cwV 2 hts gX9_waitingOf_X5_findWaiting rfl rfl rfl (by decide +kernel) ⟨Nat.le_of_ble_eq_true rfl, Nat.le_of_ble_eq_true rfl⟩) hK ((WIN_off (j := 0) (by decide) (O 0)).subP hP) 6 rfl rfl rfl hl.1 rfl (Nat.le_of_ble_eq_true rfl) ⟨Nat.le_of_ble_eq_true rfl, Nat.le_of_ble_eq_true rfl⟩ dX9_waitingOf_20 ?_
  refine lv_istore_n (lv' := [(3, .int (oI (findC (O 0) z z1 N))), (0, .ref (v 0)), (1, .int (z)), (2, .int (z1))]) hx hb dX9_waitingOf_23 rfl hl (by decide) rfl (fun ls hl => ?_)
  refine lv_iload_n hx hb dX9_waitingOf_24 rfl (lv_at hl 0 rfl) ?_
  refine lv_iconst (v := -1) hx hb dX9_waitingOf_25 (by decide) ?_
  refine lv_icmp_ne (tgt := 39) hx hb dX9_waitingOf_26 (by decide) (fun c26 => ?_) (fun c26 => ?_)
  ·
    obtain ⟨jj, hjj⟩ : ∃ q, findC (O 0) z z1 N = some q := by
      cases h : findC (O 0) z z1 N with
      | none => exact absurd (by rw [h]; rfl) c26
      | some q => exact ⟨q, rfl⟩
    refine lv_iload_n hx hb dX9_waitingOf_39 rfl (lv_at hl 0 rfl) ?_
    refine endI (r := (findC (O 0) z z1 N).elim 0 nI) (by rw [hjj]; rfl) ?_
    exact hret _ _ _ _ _ _ dX9_waitingOf_40 (by rw [x4, x8, hjj]; rfl) hP hD hS (by decide) (by decide)
  ·
    have hjj := (oI_m1 (fun j h => by have := (findC_lt h).1; omega)).mp c26
    exact vx_throwN (cls := "java/util/NoSuchElementException") (names := supL) (text := "no such complaint is waiting") (sa := aK 16) hx hb hl9 hown (by decide +kernel) (by decide +kernel) w1 w2 (show vk_R RX9 208 "no such complaint is waiting" (aK 16) s from hC.2.1 16 (by decide)) (vx_hat (B := badW "java/util/NoSuchElementException") (fun w hw => hts w (List.mem_cons_of_mem _ (List.mem_append_left _ (List.mem_append_right _ hw)))) tb_120 (hC.2.2.2.2.use (by decide +kernel))) tg_120 hC.2.2.1 hC.2.2.2.1 hS (hl.1.trans hml.symm) dX9_waitingOf_29 dX9_waitingOf_32 dX9_waitingOf_33 dX9_waitingOf_35 dX9_waitingOf_38 (fun x hx => (htab x hx).elim) (by decide) (Nat.le_of_ble_eq_true rfl) (Nat.le_of_ble_eq_true rfl) (Nat.le_of_ble_eq_true rfl) hlocks (fun t hv hz hk => hthr _ _ _ t (by rw [x4, x8, hjj]; rfl) hP hD hS hv hz hk) (fun z hz => hfr _ (hS.2.2 z hz)) (by decide) (by decide)

set_option maxHeartbeats 4000000 in
set_option maxRecDepth 100000 in
theorem c_X9_oldest (l : Launch) (hl9 : l.stackTraces = false) (D : va_G) (T : Nat → ClassId) (aK aV : Nat → Nat) (v : Nat → Nat) (B : Nat → Nat → Nat) (O : Nat → Nat → Nat → Int32) (g : CSt) (ln un nx pl : Nat) (f0 f1 f2 : Nat → Int32) (N : Nat) (K : Nat) (C : Nat) (nt : Nat) (hOI : OI (O 0) N K C nt) (sz : Nat) : vx_Met l yX9_oldest wsX9_oldest ({ frames := 6, cells := 1, slots := 6, locals := 90 } : Room) (va_Pc [.ref (v 0)] (PSc D T aK aV (WIN T v B O g ln un nx pl f0 f1 f2) sz)) (va_Qi (fun r9 (_ : Unit) => (chkB ((firstC (O 0) ((O 0) 0 0) N).isSome) "java/util/NoSuchElementException") = none ∧ r9 = ((firstC (O 0) ((O 0) 0 0) N).elim 0 nI)) (fun _ t => QS D T (va_A (WIN T v B O g ln un nx pl f0 f1 f2) sz) (WIN T v B O g ln un nx pl f0 f1 f2) t) (va_A (WIN T v B O g ln un nx pl f0 f1 f2) sz)) (vx_X (fun (_ : Unit) => True) (fun E _ t => (chkB ((firstC (O 0) ((O 0) 0 0) N).isSome) "java/util/NoSuchElementException") = some E ∧ QS D T (va_A (WIN T v B O g ln un nx pl f0 f1 f2) sz) (WIN T v B O g ln un nx pl f0 f1 f2) t) (va_A (WIN T v B O g ln un nx pl f0 f1 f2) sz)) 1 6 (va_A (WIN T v B O g ln un nx pl f0 f1 f2) sz) := by
  refine metXi (cc := cX9_oldest) (maxL := 2) (ty := .int) (by decide) rfl (by rfl) (Nat.le_of_ble_eq_true rfl) ?_
  intro p e s m args below meth c Qc XC free ls A hx hb hml hown hts hC hP hK hD hA hS hl htab hlocks hfr hret hthr
  have hown : s.vm.findClass RX9 = some m.cls := hown
  have hl : lv_has ls 2 [(0, .ref (v 0))] := hl
  have i3 : ∀ w ∈ wsX30, w ∈ wsX9_oldest := by decide +kernel
  have i9 : ∀ w ∈ wsX90, w ∈ wsX9_oldest := by decide +kernel
  have w1 := hts (Cond.classLink RX9 116 "java/util/NoSuchElementException") (List.mem_of_getElem? (i := 1) rfl)
  have w2 := hts (Cond.initialized "java/util/NoSuchElementException") (List.mem_of_getElem? (i := 2) rfl)
  have w3 := hts (Cond.fieldLink RX9 19 "MoonComplaintWindow" "office" "LMoonComplaintWindow$Office;") (List.mem_of_getElem? (i := 3) rfl)
  have w4 := hts (Cond.fieldLink RX9 107 "MoonComplaintWindow$Office" "pile" "LMoonComplaintWindow$Pile;") (List.mem_of_getElem? (i := 4) rfl)
  have w5 := hts (Cond.fieldLink RX9 124 "MoonComplaintWindow$Office" "night" "I") (List.mem_of_getElem? (i := 5) rfl)
  obtain ⟨hN, hN2, hKn, hK2, hCn, hC1, hC2, hn, hnt, hSK⟩ := id hOI
  refine lv_aload_n hx hb dX9_oldest_0 rfl (lv_at hl 0 rfl) ?_
  refine va_get (D := D) (ci := 9) (v := .ref ((B 0) 0)) (C := RX9) (T := TX9) (N := 6) hx hb hts i9 hown hK hP 0 rfl rfl 1 (by decide) w3 (fun _ h9 => h9) rfl dX9_oldest_1 ?_
  refine va_get (D := D) (ci := 3) (v := .ref ((B 0) 6)) (C := RX3) (T := TX3) (N := 4) hx hb hts i3 hown hK hP (14 * 0 + 0 + 11) (WIN_get (by decide) (by decide) rfl) rfl 3 (by decide) w4 (fun _ h9 => h9) rfl dX9_oldest_4 ?_
  refine lv_aload_n hx hb dX9_oldest_7 rfl (lv_at hl 0 rfl) ?_
  refine va_get (D := D) (ci := 9) (v := .ref ((B 0) 0)) (C := RX9) (T := TX9) (N := 6) hx hb hts i9 hown hK hP 0 rfl rfl 1 (by decide) w3 (fun _ h9 => h9) rfl dX9_oldest_8 ?_
  refine va_get (D := D) (ci := 3) (v := .int ((O 0) 0 0)) (C := RX3) (T := TX3) (N := 4) hx hb hts i3 hown hK hP (14 * 0 + 0 + 11) (WIN_get (by decide) (by decide) rfl) rfl 0 (by decide) w5 (fun _ h9 => h9) rfl dX9_oldest_11 ?_
  refine endI (r := (O 0) 0 0) (rfl) ?_
  refine rdV (As := [.int ((O 0) 0 0)]) (rest := []) ⟨hx, hb, hml, hown, hts⟩ (c_X5_firstFiled l D T (B 0) (O 0) ((O 0) 0 0) N hN hN2) (cwV 1 hts gX9_oldest_X5_firstFiled rfl rfl rfl (by decide +kernel) ⟨Nat.le_of_ble_eq_true rfl, Nat.le_of_ble_eq_true rfl⟩) hK ((WIN_off (j := 0) (by decide) (O 0)).subP hP) 6 rfl rfl rfl hl.1 rfl (Nat.le_of_ble_eq_true rfl) ⟨Nat.zero_le _, Nat.zero_le _⟩ dX9_oldest_14 ?_
  refine lv_istore_n (lv' := [(1, .int (oI (firstC (O 0) ((O 0) 0 0) N))), (0, .ref (v 0))]) hx hb dX9_oldest_17 rfl hl (by decide) rfl (fun ls hl => ?_)
  refine lv_iload_n hx hb dX9_oldest_18 rfl (lv_at hl 0 rfl) ?_
  refine lv_iconst (v := -1) hx hb dX9_oldest_19 (by decide) ?_
  refine lv_icmp_ne (tgt := 33) hx hb dX9_oldest_20 (by decide) (fun c20 => ?_) (fun c20 => ?_)
  ·
    obtain ⟨jj, hjj⟩ : ∃ q, firstC (O 0) ((O 0) 0 0) N = some q := by
      cases h : firstC (O 0) ((O 0) 0 0) N with
      | none => exact absurd (by rw [h]; rfl) c20
      | some q => exact ⟨q, rfl⟩
    refine lv_iload_n hx hb dX9_oldest_33 rfl (lv_at hl 0 rfl) ?_
    refine endI (r := (firstC (O 0) ((O 0) 0 0) N).elim 0 nI) (by rw [hjj]; rfl) ?_
    exact hret _ _ _ _ _ _ dX9_oldest_34 (by rw [hjj]; rfl) hP hD hS (by decide) (by decide)
  ·
    have hjj := (oI_m1 (fun j h => by have := (firstC_lt h).1; omega)).mp c20
    exact vx_throwN (cls := "java/util/NoSuchElementException") (names := supL) (text := "no complaint is waiting") (sa := aK 17) hx hb hl9 hown (by decide +kernel) (by decide +kernel) w1 w2 (show vk_R RX9 216 "no complaint is waiting" (aK 17) s from hC.2.1 17 (by decide)) (vx_hat (B := badW "java/util/NoSuchElementException") (fun w hw => hts w (List.mem_cons_of_mem _ (List.mem_append_right _ hw))) tb_120 (hC.2.2.2.2.use (by decide +kernel))) tg_120 hC.2.2.1 hC.2.2.2.1 hS (hl.1.trans hml.symm) dX9_oldest_23 dX9_oldest_26 dX9_oldest_27 dX9_oldest_29 dX9_oldest_32 (fun x hx => (htab x hx).elim) (by decide) (Nat.le_of_ble_eq_true rfl) (Nat.le_of_ble_eq_true rfl) (Nat.le_of_ble_eq_true rfl) hlocks (fun t hv hz hk => hthr _ _ _ t (by rw [hjj]; rfl) hP hD hS hv hz hk) (fun z hz => hfr _ (hS.2.2 z hz)) (by decide) (by decide)

set_option maxHeartbeats 4000000 in
set_option maxRecDepth 100000 in
theorem c_X9_angriest (l : Launch) (hl9 : l.stackTraces = false) (D : va_G) (T : Nat → ClassId) (aK aV : Nat → Nat) (v : Nat → Nat) (B : Nat → Nat → Nat) (O : Nat → Nat → Nat → Int32) (g : CSt) (ln un nx pl : Nat) (f0 f1 f2 : Nat → Int32) (N : Nat) (K : Nat) (C : Nat) (nt : Nat) (hOI : OI (O 0) N K C nt) (sz : Nat) : vx_Met l yX9_angriest wsX9_angriest ({ frames := 6, cells := 1, slots := 6, locals := 90 } : Room) (va_Pc [.ref (v 0)] (PSc D T aK aV (WIN T v B O g ln un nx pl f0 f1 f2) sz)) (va_Qi (fun r9 (_ : Unit) => (chkB ((mostC (O 0) 15 N).isSome) "java/util/NoSuchElementException") = none ∧ r9 = ((mostC (O 0) 15 N).elim 0 nI)) (fun _ t => QS D T (va_A (WIN T v B O g ln un nx pl f0 f1 f2) sz) (WIN T v B O g ln un nx pl f0 f1 f2) t) (va_A (WIN T v B O g ln un nx pl f0 f1 f2) sz)) (vx_X (fun (_ : Unit) => True) (fun E _ t => (chkB ((mostC (O 0) 15 N).isSome) "java/util/NoSuchElementException") = some E ∧ QS D T (va_A (WIN T v B O g ln un nx pl f0 f1 f2) sz) (WIN T v B O g ln un nx pl f0 f1 f2) t) (va_A (WIN T v B O g ln un nx pl f0 f1 f2) sz)) 1 6 (va_A (WIN T v B O g ln un nx pl f0 f1 f2) sz) := by
  refine metXi (cc := cX9_angriest) (maxL := 2) (ty := .int) (by decide) rfl (by rfl) (Nat.le_of_ble_eq_true rfl) ?_
  intro p e s m args below meth c Qc XC free ls A hx hb hml hown hts hC hP hK hD hA hS hl htab hlocks hfr hret hthr
  have hown : s.vm.findClass RX9 = some m.cls := hown
  have hl : lv_has ls 2 [(0, .ref (v 0))] := hl
  have i3 : ∀ w ∈ wsX30, w ∈ wsX9_angriest := by decide +kernel
  have i9 : ∀ w ∈ wsX90, w ∈ wsX9_angriest := by decide +kernel
  have w1 := hts (Cond.classLink RX9 116 "java/util/NoSuchElementException") (List.mem_of_getElem? (i := 1) rfl)
  have w2 := hts (Cond.initialized "java/util/NoSuchElementException") (List.mem_of_getElem? (i := 2) rfl)
  have w3 := hts (Cond.fieldLink RX9 19 "MoonComplaintWindow" "office" "LMoonComplaintWindow$Office;") (List.mem_of_getElem? (i := 3) rfl)
  have w4 := hts (Cond.fieldLink RX9 107 "MoonComplaintWindow$Office" "pile" "LMoonComplaintWindow$Pile;") (List.mem_of_getElem? (i := 4) rfl)
  obtain ⟨hN, hN2, hKn, hK2, hCn, hC1, hC2, hn, hnt, hSK⟩ := id hOI
  refine lv_aload_n hx hb dX9_angriest_0 rfl (lv_at hl 0 rfl) ?_
  refine va_get (D := D) (ci := 9) (v := .ref ((B 0) 0)) (C := RX9) (T := TX9) (N := 6) hx hb hts i9 hown hK hP 0 rfl rfl 1 (by decide) w3 (fun _ h9 => h9) rfl dX9_angriest_1 ?_
  refine va_get (D := D) (ci := 3) (v := .ref ((B 0) 6)) (C := RX3) (T := TX3) (N := 4) hx hb hts i3 hown hK hP (14 * 0 + 0 + 11) (WIN_get (by decide) (by decide) rfl) rfl 3 (by decide) w4 (fun _ h9 => h9) rfl dX9_angriest_4 ?_
  refine lv_bipush (v := 15) hx hb dX9_angriest_7 (by decide) ?_
  refine rdV (As := [.int (15)]) (rest := []) ⟨hx, hb, hml, hown, hts⟩ (c_X5_withMostAnger l D T (B 0) (O 0) 15 N hN hN2) (cwV 1 hts gX9_angriest_X5_withMostAnger rfl rfl rfl (by decide +kernel) ⟨Nat.le_of_ble_eq_true rfl, Nat.le_of_ble_eq_true rfl⟩) hK ((WIN_off (j := 0) (by decide) (O 0)).subP hP) 6 rfl rfl rfl hl.1 rfl (Nat.le_of_ble_eq_true rfl) ⟨Nat.zero_le _, Nat.zero_le _⟩ dX9_angriest_9 ?_
  refine lv_istore_n (lv' := [(1, .int (oI (mostC (O 0) 15 N))), (0, .ref (v 0))]) hx hb dX9_angriest_12 rfl hl (by decide) rfl (fun ls hl => ?_)
  refine lv_iload_n hx hb dX9_angriest_13 rfl (lv_at hl 0 rfl) ?_
  refine lv_iconst (v := -1) hx hb dX9_angriest_14 (by decide) ?_
  refine lv_icmp_ne (tgt := 28) hx hb dX9_angriest_15 (by decide) (fun c15 => ?_) (fun c15 => ?_)
  ·
    obtain ⟨jj, hjj⟩ : ∃ q, mostC (O 0) 15 N = some q := by
      cases h : mostC (O 0) 15 N with
      | none => exact absurd (by rw [h]; rfl) c15
      | some q => exact ⟨q, rfl⟩
    refine lv_iload_n hx hb dX9_angriest_28 rfl (lv_at hl 0 rfl) ?_
    refine endI (r := (mostC (O 0) 15 N).elim 0 nI) (by rw [hjj]; rfl) ?_
    exact hret _ _ _ _ _ _ dX9_angriest_29 (by rw [hjj]; rfl) hP hD hS (by decide) (by decide)
  ·
    have hjj := (oI_m1 (fun j h => by have := (mostC_lt h).1; omega)).mp c15
    exact vx_throwN (cls := "java/util/NoSuchElementException") (names := supL) (text := "no complaint is waiting") (sa := aK 17) hx hb hl9 hown (by decide +kernel) (by decide +kernel) w1 w2 (show vk_R RX9 216 "no complaint is waiting" (aK 17) s from hC.2.1 17 (by decide)) (vx_hat (B := badW "java/util/NoSuchElementException") (fun w hw => hts w (List.mem_cons_of_mem _ (List.mem_append_right _ hw))) tb_120 (hC.2.2.2.2.use (by decide +kernel))) tg_120 hC.2.2.1 hC.2.2.2.1 hS (hl.1.trans hml.symm) dX9_angriest_18 dX9_angriest_21 dX9_angriest_22 dX9_angriest_24 dX9_angriest_27 (fun x hx => (htab x hx).elim) (by decide) (Nat.le_of_ble_eq_true rfl) (Nat.le_of_ble_eq_true rfl) (Nat.le_of_ble_eq_true rfl) hlocks (fun t hv hz hk => hthr _ _ _ t (by rw [hjj]; rfl) hP hD hS hv hz hk) (fun z hz => hfr _ (hS.2.2 z hz)) (by decide) (by decide)

set_option maxHeartbeats 4000000 in
set_option maxRecDepth 100000 in
theorem c_X9_complaintsOf (l : Launch) (hl9 : l.stackTraces = false) (D : va_G) (T : Nat → ClassId) (aK aV : Nat → Nat) (v : Nat → Nat) (B : Nat → Nat → Nat) (O : Nat → Nat → Nat → Int32) (g : CSt) (ln un nx pl : Nat) (f0 f1 f2 : Nat → Int32) (z : Int32) (N : Nat) (K : Nat) (C : Nat) (nt : Nat) (hOI : OI (O 0) N K C nt) (sz : Nat) : vx_Met l yX9_complaintsOf wsX9_complaintsOf ({ frames := 7, cells := 1, slots := 6, locals := 112 } : Room) (va_Pc [.ref (v 0), .int (z)] (PSc D T aK aV (WIN T v B O g ln un nx pl f0 f1 f2) sz)) (va_Qi (fun r9 (_ : Unit) => (chkB (rg z 0 99) "java/lang/IllegalArgumentException") = none ∧ r9 = (cntI (fun k => decide ((O 0) 4 k = z)) N 0 0)) (fun _ t => QS D T (va_A (WIN T v B O g ln un nx pl f0 f1 f2) sz) (WIN T v B O g ln un nx pl f0 f1 f2) t) (va_A (WIN T v B O g ln un nx pl f0 f1 f2) sz)) (vx_X (fun (_ : Unit) => True) (fun E _ t => (chkB (rg z 0 99) "java/lang/IllegalArgumentException") = some E ∧ QS D T (va_A (WIN T v B O g ln un nx pl f0 f1 f2) sz) (WIN T v B O g ln un nx pl f0 f1 f2) t) (va_A (WIN T v B O g ln un nx pl f0 f1 f2) sz)) 1 6 (va_A (WIN T v B O g ln un nx pl f0 f1 f2) sz) := by
  refine metXi (cc := cX9_complaintsOf) (maxL := 2) (ty := .int) (by decide) rfl (by rfl) (Nat.le_of_ble_eq_true rfl) ?_
  intro p e s m args below meth c Qc XC free ls A hx hb hml hown hts hC hP hK hD hA hS hl htab hlocks hfr hret hthr
  have hown : s.vm.findClass RX9 = some m.cls := hown
  have hl : lv_has ls 2 [(0, .ref (v 0)), (1, .int (z))] := hl
  have i3 : ∀ w ∈ wsX30, w ∈ wsX9_complaintsOf := by decide +kernel
  have i9 : ∀ w ∈ wsX90, w ∈ wsX9_complaintsOf := by decide +kernel
  have w1 := hts (Cond.fieldLink RX9 19 "MoonComplaintWindow" "office" "LMoonComplaintWindow$Office;") (List.mem_of_getElem? (i := 1) rfl)
  have w2 := hts (Cond.fieldLink RX9 107 "MoonComplaintWindow$Office" "pile" "LMoonComplaintWindow$Pile;") (List.mem_of_getElem? (i := 2) rfl)
  obtain ⟨hN, hN2, hKn, hK2, hCn, hC1, hC2, hn, hnt, hSK⟩ := id hOI
  refine lv_iload_n hx hb dX9_complaintsOf_0 rfl (lv_at hl 1 rfl) ?_
  refine lv_iconst (v := 0) hx hb dX9_complaintsOf_1 (by decide) ?_
  refine lv_bipush (v := 99) hx hb dX9_complaintsOf_2 (by decide) ?_
  refine wxSv (As := [.int (z), .int (0), .int (99)]) (rest := []) ⟨hx, hb, hml, hown, hts⟩ (c_X9_checkRange l hl9 D T aK aV z 0 99 _) (va_cwS 3 hts gX9_complaintsOf_X9_checkRange rfl rfl rfl (by decide +kernel) ⟨Nat.le_of_ble_eq_true rfl, Nat.le_of_ble_eq_true rfl⟩) (Foc.nil _) (Foc.nil _) hC hK hP hD hS hA rfl hl.1 rfl (Nat.le_of_ble_eq_true rfl) ⟨Nat.le_of_ble_eq_true rfl, Nat.le_of_ble_eq_true rfl⟩ dX9_complaintsOf_4 (fun E ce q9 H1 locs1 hE hP1 hD1 hS1 hce hcv hcl => vx_out (fun x hx => (htab x hx).elim) hlocks hce hcv hcl (fun t ht hv => hthr H1 locs1 E t (by first | exact hE | (simp only [orE, true_and, hE]; done) | (simp [orE, true_and, hE]; done)) hP1 hD1 hS1 hv (by rw [ht]; exact Nat.le_refl _) (fun q _ => by rw [ht])) (fun z hz => hfr _ (hS1.2.2 z hz)) (by decide) (by decide)) (fun H locs x4 hP hD hS => ?_)
  have hP : va_P D vwCl (WIN T v B O g ln un nx pl f0 f1 f2) H := hP
  have hD : va_D A (WIN T v B O g ln un nx pl f0 f1 f2) := hD
  refine lv_aload_n hx hb dX9_complaintsOf_7 rfl (lv_at hl 0 rfl) ?_
  refine va_get (D := D) (ci := 9) (v := .ref ((B 0) 0)) (C := RX9) (T := TX9) (N := 6) hx hb hts i9 hown hK hP 0 rfl rfl 1 (by decide) w1 (fun _ h9 => h9) rfl dX9_complaintsOf_8 ?_
  refine va_get (D := D) (ci := 3) (v := .ref ((B 0) 6)) (C := RX3) (T := TX3) (N := 4) hx hb hts i3 hown hK hP (14 * 0 + 0 + 11) (WIN_get (by decide) (by decide) rfl) rfl 3 (by decide) w2 (fun _ h9 => h9) rfl dX9_complaintsOf_11 ?_
  refine lv_iload_n hx hb dX9_complaintsOf_14 rfl (lv_at hl 1 rfl) ?_
  refine rdV (As := [.int (z)]) (rest := []) ⟨hx, hb, hml, hown, hts⟩ (c_X5_countOfPerson l D T (B 0) (O 0) z N hN hN2) (cwV 1 hts gX9_complaintsOf_X5_countOfPerson rfl rfl rfl (by decide +kernel) ⟨Nat.le_of_ble_eq_true rfl, Nat.le_of_ble_eq_true rfl⟩) hK ((WIN_off (j := 0) (by decide) (O 0)).subP hP) 6 rfl rfl rfl hl.1 rfl (Nat.le_of_ble_eq_true rfl) ⟨Nat.le_of_ble_eq_true rfl, Nat.le_of_ble_eq_true rfl⟩ dX9_complaintsOf_15 ?_
  refine endI (r := cntI (fun k => decide ((O 0) 4 k = z)) N 0 0) (by rfl) ?_
  exact hret _ _ _ _ _ _ dX9_complaintsOf_18 (by first | rfl | (simp only [orE, x4]; done) | (simp only [orE, x4] <;> simp [chkB, x4]; done) | (simp [orE, chkB, x4]; done) | ((first | have x4x := Int32.not_lt.mp x4 | have x4x := Int32.not_le.mp x4 | have x4x := Int32.not_lt.mpr x4 | have x4x := Int32.not_le.mpr x4 | have x4x := x4); simp [orE, chkB, x4, x4x]; done)) hP hD hS (by decide) (by decide)

set_option maxHeartbeats 4000000 in
set_option maxRecDepth 100000 in
theorem c_X9_darkestClerk (l : Launch) (hl9 : l.stackTraces = false) (D : va_G) (T : Nat → ClassId) (aK aV : Nat → Nat) (v : Nat → Nat) (B : Nat → Nat → Nat) (O : Nat → Nat → Nat → Int32) (g : CSt) (ln un nx pl : Nat) (f0 f1 f2 : Nat → Int32) (N : Nat) (K : Nat) (C : Nat) (nt : Nat) (hOI : OI (O 0) N K C nt) (sz : Nat) : vx_Met l yX9_darkestClerk wsX9_darkestClerk ({ frames := 6, cells := 1, slots := 6, locals := 90 } : Room) (va_Pc [.ref (v 0)] (PSc D T aK aV (WIN T v B O g ln un nx pl f0 f1 f2) sz)) (va_Qi (fun r9 (_ : Unit) => (chkB (((minF (fun _ => true) ((O 0) 3) K 0 (none, 100)).1).isSome) "java/util/NoSuchElementException") = none ∧ r9 = (((minF (fun _ => true) ((O 0) 3) K 0 (none, 100)).1).elim 0 nI)) (fun _ t => QS D T (va_A (WIN T v B O g ln un nx pl f0 f1 f2) sz) (WIN T v B O g ln un nx pl f0 f1 f2) t) (va_A (WIN T v B O g ln un nx pl f0 f1 f2) sz)) (vx_X (fun (_ : Unit) => True) (fun E _ t => (chkB (((minF (fun _ => true) ((O 0) 3) K 0 (none, 100)).1).isSome) "java/util/NoSuchElementException") = some E ∧ QS D T (va_A (WIN T v B O g ln un nx pl f0 f1 f2) sz) (WIN T v B O g ln un nx pl f0 f1 f2) t) (va_A (WIN T v B O g ln un nx pl f0 f1 f2) sz)) 1 6 (va_A (WIN T v B O g ln un nx pl f0 f1 f2) sz) := by
  refine metXi (cc := cX9_darkestClerk) (maxL := 2) (ty := .int) (by decide) rfl (by rfl) (Nat.le_of_ble_eq_true rfl) ?_
  intro p e s m args below meth c Qc XC free ls A hx hb hml hown hts hC hP hK hD hA hS hl htab hlocks hfr hret hthr
  have hown : s.vm.findClass RX9 = some m.cls := hown
  have hl : lv_has ls 2 [(0, .ref (v 0))] := hl
  have i3 : ∀ w ∈ wsX30, w ∈ wsX9_darkestClerk := by decide +kernel
  have i9 : ∀ w ∈ wsX90, w ∈ wsX9_darkestClerk := by decide +kernel
  have w1 := hts (Cond.classLink RX9 116 "java/util/NoSuchElementException") (List.mem_of_getElem? (i := 1) rfl)
  have w2 := hts (Cond.initialized "java/util/NoSuchElementException") (List.mem_of_getElem? (i := 2) rfl)
  have w3 := hts (Cond.fieldLink RX9 19 "MoonComplaintWindow" "office" "LMoonComplaintWindow$Office;") (List.mem_of_getElem? (i := 3) rfl)
  have w4 := hts (Cond.fieldLink RX9 224 "MoonComplaintWindow$Office" "staff" "LMoonComplaintWindow$Staff;") (List.mem_of_getElem? (i := 4) rfl)
  obtain ⟨hN, hN2, hKn, hK2, hCn, hC1, hC2, hn, hnt, hSK⟩ := id hOI
  refine lv_aload_n hx hb dX9_darkestClerk_0 rfl (lv_at hl 0 rfl) ?_
  refine va_get (D := D) (ci := 9) (v := .ref ((B 0) 0)) (C := RX9) (T := TX9) (N := 6) hx hb hts i9 hown hK hP 0 rfl rfl 1 (by decide) w3 (fun _ h9 => h9) rfl dX9_darkestClerk_1 ?_
  refine va_get (D := D) (ci := 3) (v := .ref ((B 0) 3)) (C := RX3) (T := TX3) (N := 4) hx hb hts i3 hown hK hP (14 * 0 + 0 + 11) (WIN_get (by decide) (by decide) rfl) rfl 2 (by decide) w4 (fun _ h9 => h9) rfl dX9_darkestClerk_4 ?_
  refine rdV (As := []) (rest := []) ⟨hx, hb, hml, hown, hts⟩ (c_X8_withLeastOil l D T (B 0) (O 0) K hKn hK2) (cwV 0 hts gX9_darkestClerk_X8_withLeastOil rfl rfl rfl (by decide +kernel) ⟨Nat.le_of_ble_eq_true rfl, Nat.le_of_ble_eq_true rfl⟩) hK ((WIN_off (j := 0) (by decide) (O 0)).subP hP) 3 rfl rfl rfl hl.1 rfl (Nat.le_of_ble_eq_true rfl) ⟨Nat.zero_le _, Nat.zero_le _⟩ dX9_darkestClerk_7 ?_
  refine lv_istore_n (lv' := [(1, .int (oI (minF (fun _ => true) ((O 0) 3) K 0 (none, 100)).1)), (0, .ref (v 0))]) hx hb dX9_darkestClerk_10 rfl hl (by decide) rfl (fun ls hl => ?_)
  refine lv_iload_n hx hb dX9_darkestClerk_11 rfl (lv_at hl 0 rfl) ?_
  refine lv_iconst (v := -1) hx hb dX9_darkestClerk_12 (by decide) ?_
  refine lv_icmp_ne (tgt := 26) hx hb dX9_darkestClerk_13 (by decide) (fun c13 => ?_) (fun c13 => ?_)
  ·
    obtain ⟨jj, hjj⟩ : ∃ q, (minF (fun _ => true) ((O 0) 3) K 0 (none, 100)).1 = some q := by
      cases h : (minF (fun _ => true) ((O 0) 3) K 0 (none, 100)).1 with
      | none => exact absurd (by rw [h]; rfl) c13
      | some q => exact ⟨q, rfl⟩
    refine lv_iload_n hx hb dX9_darkestClerk_26 rfl (lv_at hl 0 rfl) ?_
    refine endI (r := ((minF (fun _ => true) ((O 0) 3) K 0 (none, 100)).1).elim 0 nI) (by rw [hjj]; rfl) ?_
    exact hret _ _ _ _ _ _ dX9_darkestClerk_27 (by rw [hjj]; rfl) hP hD hS (by decide) (by decide)
  ·
    have hjj := (oI_m1 (fun j h => by have := (leastC_lt h).1; omega)).mp c13
    exact vx_throwN (cls := "java/util/NoSuchElementException") (names := supL) (text := "there are no clerks") (sa := aK 18) hx hb hl9 hown (by decide +kernel) (by decide +kernel) w1 w2 (show vk_R RX9 234 "there are no clerks" (aK 18) s from hC.2.1 18 (by decide)) (vx_hat (B := badW "java/util/NoSuchElementException") (fun w hw => hts w (List.mem_cons_of_mem _ (List.mem_append_right _ hw))) tb_120 (hC.2.2.2.2.use (by decide +kernel))) tg_120 hC.2.2.1 hC.2.2.2.1 hS (hl.1.trans hml.symm) dX9_darkestClerk_16 dX9_darkestClerk_19 dX9_darkestClerk_20 dX9_darkestClerk_22 dX9_darkestClerk_25 (fun x hx => (htab x hx).elim) (by decide) (Nat.le_of_ble_eq_true rfl) (Nat.le_of_ble_eq_true rfl) (Nat.le_of_ble_eq_true rfl) hlocks (fun t hv hz hk => hthr _ _ _ t (by rw [hjj]; rfl) hP hD hS hv hz hk) (fun z hz => hfr _ (hS.2.2 z hz)) (by decide) (by decide)

set_option maxHeartbeats 4000000 in
set_option maxRecDepth 100000 in
theorem c_X9_skillOf (l : Launch) (hl9 : l.stackTraces = false) (D : va_G) (T : Nat → ClassId) (aK aV : Nat → Nat) (v : Nat → Nat) (B : Nat → Nat → Nat) (O : Nat → Nat → Nat → Int32) (g : CSt) (ln un nx pl : Nat) (f0 f1 f2 : Nat → Int32) (z : Int32) (N : Nat) (K : Nat) (C : Nat) (nt : Nat) (hOI : OI (O 0) N K C nt) (sz : Nat) : vx_Met l yX9_skillOf wsX9_skillOf ({ frames := 7, cells := 1, slots := 6, locals := 111 } : Room) (va_Pc [.ref (v 0), .int (z)] (PSc D T aK aV (WIN T v B O g ln un nx pl f0 f1 f2) sz)) (va_Qi (fun r9 (_ : Unit) => (chkB (inN z K) "java/lang/IndexOutOfBoundsException") = none ∧ r9 = ((O 0) 2 z.toNatClampNeg)) (fun _ t => QS D T (va_A (WIN T v B O g ln un nx pl f0 f1 f2) sz) (WIN T v B O g ln un nx pl f0 f1 f2) t) (va_A (WIN T v B O g ln un nx pl f0 f1 f2) sz)) (vx_X (fun (_ : Unit) => True) (fun E _ t => (chkB (inN z K) "java/lang/IndexOutOfBoundsException") = some E ∧ QS D T (va_A (WIN T v B O g ln un nx pl f0 f1 f2) sz) (WIN T v B O g ln un nx pl f0 f1 f2) t) (va_A (WIN T v B O g ln un nx pl f0 f1 f2) sz)) 1 6 (va_A (WIN T v B O g ln un nx pl f0 f1 f2) sz) := by
  refine metXi (cc := cX9_skillOf) (maxL := 2) (ty := .int) (by decide) rfl (by rfl) (Nat.le_of_ble_eq_true rfl) ?_
  intro p e s m args below meth c Qc XC free ls A hx hb hml hown hts hC hP hK hD hA hS hl htab hlocks hfr hret hthr
  have hown : s.vm.findClass RX9 = some m.cls := hown
  have hl : lv_has ls 2 [(0, .ref (v 0)), (1, .int (z))] := hl
  have i3 : ∀ w ∈ wsX30, w ∈ wsX9_skillOf := by decide +kernel
  have i8 : ∀ w ∈ wsX80, w ∈ wsX9_skillOf := by decide +kernel
  have i9 : ∀ w ∈ wsX90, w ∈ wsX9_skillOf := by decide +kernel
  have w1 := hts (Cond.fieldLink RX9 19 "MoonComplaintWindow" "office" "LMoonComplaintWindow$Office;") (List.mem_of_getElem? (i := 1) rfl)
  have w2 := hts (Cond.fieldLink RX9 224 "MoonComplaintWindow$Office" "staff" "LMoonComplaintWindow$Staff;") (List.mem_of_getElem? (i := 2) rfl)
  have w3 := hts (Cond.fieldLink RX9 239 "MoonComplaintWindow$Staff" "skills" "[I") (List.mem_of_getElem? (i := 3) rfl)
  obtain ⟨hN, hN2, hKn, hK2, hCn, hC1, hC2, hn, hnt, hSK⟩ := id hOI
  refine lv_aload_n hx hb dX9_skillOf_0 rfl (lv_at hl 0 rfl) ?_
  refine lv_iload_n hx hb dX9_skillOf_1 rfl (lv_at hl 1 rfl) ?_
  refine wxVv (As := [.int (z)]) (rest := []) ⟨hx, hb, hml, hown, hts⟩ (c_X9_checkClerk l hl9 D T aK aV v B O g ln un nx pl f0 f1 f2 z N K C nt hOI _) (cwV 1 hts gX9_skillOf_X9_checkClerk rfl rfl rfl (by decide +kernel) ⟨Nat.le_of_ble_eq_true rfl, Nat.le_of_ble_eq_true rfl⟩) (Foc.rfl _ _) (Foc.rfl _ _) hC hK hP hD hS hA 0 rfl rfl rfl hl.1 rfl (Nat.le_of_ble_eq_true rfl) ⟨Nat.le_of_ble_eq_true rfl, Nat.le_of_ble_eq_true rfl⟩ dX9_skillOf_2 (fun E ce q9 H1 locs1 hE hP1 hD1 hS1 hce hcv hcl => vx_out (fun x hx => (htab x hx).elim) hlocks hce hcv hcl (fun t ht hv => hthr H1 locs1 E t (by first | exact hE | (simp only [orE, true_and, hE]; done) | (simp [orE, true_and, hE]; done)) hP1 hD1 hS1 hv (by rw [ht]; exact Nat.le_refl _) (fun q _ => by rw [ht])) (fun z hz => hfr _ (hS1.2.2 z hz)) (by decide) (by decide)) (fun H locs x2 hP hD hS => ?_)
  have hP : va_P D vwCl (WIN T v B O g ln un nx pl f0 f1 f2) H := hP
  have hD : va_D A (WIN T v B O g ln un nx pl f0 f1 f2) := hD
  have h2r := chkB_t x2
  obtain ⟨j, hj, hjz, hjc⟩ := inN_t (by omega) h2r
  rw [hjz] at hl
  have hl : lv_has ls 2 [(0, .ref (v 0)), (1, .int (nI j))] := hl
  refine lv_aload_n hx hb dX9_skillOf_5 rfl (lv_at hl 0 rfl) ?_
  refine va_get (D := D) (ci := 9) (v := .ref ((B 0) 0)) (C := RX9) (T := TX9) (N := 6) hx hb hts i9 hown hK hP 0 rfl rfl 1 (by decide) w1 (fun _ h9 => h9) rfl dX9_skillOf_6 ?_
  refine va_get (D := D) (ci := 3) (v := .ref ((B 0) 3)) (C := RX3) (T := TX3) (N := 4) hx hb hts i3 hown hK hP (14 * 0 + 0 + 11) (WIN_get (by decide) (by decide) rfl) rfl 2 (by decide) w2 (fun _ h9 => h9) rfl dX9_skillOf_9 ?_
  refine va_get (D := D) (ci := 8) (v := .ref ((B 0) 4)) (C := RX8) (T := TX8) (N := 4) hx hb hts i8 hown hK hP (14 * 0 + 3 + 11) (WIN_get (by decide) (by decide) rfl) rfl 2 (by decide) w3 (fun _ h9 => h9) rfl dX9_skillOf_12 ?_
  refine lv_iload_n hx hb dX9_skillOf_15 rfl (lv_at hl 1 rfl) ?_
  refine aldI hx hb hK hP (14 * 0 + 4 + 11) 0 (WIN_get (by decide) (by decide) rfl) rfl (j) rfl (by omega) (by decide) dX9_skillOf_16 ?_
  refine endI (r := ((O 0) 2) j) rfl ?_
  refine endI (r := (O 0) 2 z.toNatClampNeg) (by rw [hjc]; done) ?_
  exact hret _ _ _ _ _ _ dX9_skillOf_17 (by first | rfl | (simp only [orE, x2]; done) | (simp only [orE, x2] <;> simp [chkB, x2]; done) | (simp [orE, chkB, x2]; done) | ((first | have x2x := Int32.not_lt.mp x2 | have x2x := Int32.not_le.mp x2 | have x2x := Int32.not_lt.mpr x2 | have x2x := Int32.not_le.mpr x2 | have x2x := x2); simp [orE, chkB, x2, x2x]; done)) hP hD hS (by decide) (by decide)

set_option maxHeartbeats 4000000 in
set_option maxRecDepth 100000 in
theorem c_X9_oilOf (l : Launch) (hl9 : l.stackTraces = false) (D : va_G) (T : Nat → ClassId) (aK aV : Nat → Nat) (v : Nat → Nat) (B : Nat → Nat → Nat) (O : Nat → Nat → Nat → Int32) (g : CSt) (ln un nx pl : Nat) (f0 f1 f2 : Nat → Int32) (z : Int32) (N : Nat) (K : Nat) (C : Nat) (nt : Nat) (hOI : OI (O 0) N K C nt) (sz : Nat) : vx_Met l yX9_oilOf wsX9_oilOf ({ frames := 7, cells := 1, slots := 6, locals := 111 } : Room) (va_Pc [.ref (v 0), .int (z)] (PSc D T aK aV (WIN T v B O g ln un nx pl f0 f1 f2) sz)) (va_Qi (fun r9 (_ : Unit) => (chkB (inN z K) "java/lang/IndexOutOfBoundsException") = none ∧ r9 = ((O 0) 3 z.toNatClampNeg)) (fun _ t => QS D T (va_A (WIN T v B O g ln un nx pl f0 f1 f2) sz) (WIN T v B O g ln un nx pl f0 f1 f2) t) (va_A (WIN T v B O g ln un nx pl f0 f1 f2) sz)) (vx_X (fun (_ : Unit) => True) (fun E _ t => (chkB (inN z K) "java/lang/IndexOutOfBoundsException") = some E ∧ QS D T (va_A (WIN T v B O g ln un nx pl f0 f1 f2) sz) (WIN T v B O g ln un nx pl f0 f1 f2) t) (va_A (WIN T v B O g ln un nx pl f0 f1 f2) sz)) 1 6 (va_A (WIN T v B O g ln un nx pl f0 f1 f2) sz) := by
  refine metXi (cc := cX9_oilOf) (maxL := 2) (ty := .int) (by decide) rfl (by rfl) (Nat.le_of_ble_eq_true rfl) ?_
  intro p e s m args below meth c Qc XC free ls A hx hb hml hown hts hC hP hK hD hA hS hl htab hlocks hfr hret hthr
  have hown : s.vm.findClass RX9 = some m.cls := hown
  have hl : lv_has ls 2 [(0, .ref (v 0)), (1, .int (z))] := hl
  have i3 : ∀ w ∈ wsX30, w ∈ wsX9_oilOf := by decide +kernel
  have i8 : ∀ w ∈ wsX80, w ∈ wsX9_oilOf := by decide +kernel
  have i9 : ∀ w ∈ wsX90, w ∈ wsX9_oilOf := by decide +kernel
  have w1 := hts (Cond.fieldLink RX9 19 "MoonComplaintWindow" "office" "LMoonComplaintWindow$Office;") (List.mem_of_getElem? (i := 1) rfl)
  have w2 := hts (Cond.fieldLink RX9 224 "MoonComplaintWindow$Office" "staff" "LMoonComplaintWindow$Staff;") (List.mem_of_getElem? (i := 2) rfl)
  have w3 := hts (Cond.fieldLink RX9 242 "MoonComplaintWindow$Staff" "oils" "[I") (List.mem_of_getElem? (i := 3) rfl)
  obtain ⟨hN, hN2, hKn, hK2, hCn, hC1, hC2, hn, hnt, hSK⟩ := id hOI
  refine lv_aload_n hx hb dX9_oilOf_0 rfl (lv_at hl 0 rfl) ?_
  refine lv_iload_n hx hb dX9_oilOf_1 rfl (lv_at hl 1 rfl) ?_
  refine wxVv (As := [.int (z)]) (rest := []) ⟨hx, hb, hml, hown, hts⟩ (c_X9_checkClerk l hl9 D T aK aV v B O g ln un nx pl f0 f1 f2 z N K C nt hOI _) (cwV 1 hts gX9_oilOf_X9_checkClerk rfl rfl rfl (by decide +kernel) ⟨Nat.le_of_ble_eq_true rfl, Nat.le_of_ble_eq_true rfl⟩) (Foc.rfl _ _) (Foc.rfl _ _) hC hK hP hD hS hA 0 rfl rfl rfl hl.1 rfl (Nat.le_of_ble_eq_true rfl) ⟨Nat.le_of_ble_eq_true rfl, Nat.le_of_ble_eq_true rfl⟩ dX9_oilOf_2 (fun E ce q9 H1 locs1 hE hP1 hD1 hS1 hce hcv hcl => vx_out (fun x hx => (htab x hx).elim) hlocks hce hcv hcl (fun t ht hv => hthr H1 locs1 E t (by first | exact hE | (simp only [orE, true_and, hE]; done) | (simp [orE, true_and, hE]; done)) hP1 hD1 hS1 hv (by rw [ht]; exact Nat.le_refl _) (fun q _ => by rw [ht])) (fun z hz => hfr _ (hS1.2.2 z hz)) (by decide) (by decide)) (fun H locs x2 hP hD hS => ?_)
  have hP : va_P D vwCl (WIN T v B O g ln un nx pl f0 f1 f2) H := hP
  have hD : va_D A (WIN T v B O g ln un nx pl f0 f1 f2) := hD
  have h2r := chkB_t x2
  obtain ⟨j, hj, hjz, hjc⟩ := inN_t (by omega) h2r
  rw [hjz] at hl
  have hl : lv_has ls 2 [(0, .ref (v 0)), (1, .int (nI j))] := hl
  refine lv_aload_n hx hb dX9_oilOf_5 rfl (lv_at hl 0 rfl) ?_
  refine va_get (D := D) (ci := 9) (v := .ref ((B 0) 0)) (C := RX9) (T := TX9) (N := 6) hx hb hts i9 hown hK hP 0 rfl rfl 1 (by decide) w1 (fun _ h9 => h9) rfl dX9_oilOf_6 ?_
  refine va_get (D := D) (ci := 3) (v := .ref ((B 0) 3)) (C := RX3) (T := TX3) (N := 4) hx hb hts i3 hown hK hP (14 * 0 + 0 + 11) (WIN_get (by decide) (by decide) rfl) rfl 2 (by decide) w2 (fun _ h9 => h9) rfl dX9_oilOf_9 ?_
  refine va_get (D := D) (ci := 8) (v := .ref ((B 0) 5)) (C := RX8) (T := TX8) (N := 4) hx hb hts i8 hown hK hP (14 * 0 + 3 + 11) (WIN_get (by decide) (by decide) rfl) rfl 3 (by decide) w3 (fun _ h9 => h9) rfl dX9_oilOf_12 ?_
  refine lv_iload_n hx hb dX9_oilOf_15 rfl (lv_at hl 1 rfl) ?_
  refine aldI hx hb hK hP (14 * 0 + 5 + 11) 0 (WIN_get (by decide) (by decide) rfl) rfl (j) rfl (by omega) (by decide) dX9_oilOf_16 ?_
  refine endI (r := ((O 0) 3) j) rfl ?_
  refine endI (r := (O 0) 3 z.toNatClampNeg) (by rw [hjc]; done) ?_
  exact hret _ _ _ _ _ _ dX9_oilOf_17 (by first | rfl | (simp only [orE, x2]; done) | (simp only [orE, x2] <;> simp [chkB, x2]; done) | (simp [orE, chkB, x2]; done) | ((first | have x2x := Int32.not_lt.mp x2 | have x2x := Int32.not_le.mp x2 | have x2x := Int32.not_lt.mpr x2 | have x2x := Int32.not_le.mpr x2 | have x2x := x2); simp [orE, chkB, x2, x2x]; done)) hP hD hS (by decide) (by decide)

set_option maxHeartbeats 4000000 in
set_option maxRecDepth 100000 in
theorem c_X9_answeredBy (l : Launch) (hl9 : l.stackTraces = false) (D : va_G) (T : Nat → ClassId) (aK aV : Nat → Nat) (v : Nat → Nat) (B : Nat → Nat → Nat) (O : Nat → Nat → Nat → Int32) (g : CSt) (ln un nx pl : Nat) (f0 f1 f2 : Nat → Int32) (z : Int32) (N : Nat) (K : Nat) (C : Nat) (nt : Nat) (hOI : OI (O 0) N K C nt) (sz : Nat) : vx_Met l yX9_answeredBy wsX9_answeredBy ({ frames := 7, cells := 1, slots := 6, locals := 111 } : Room) (va_Pc [.ref (v 0), .int (z)] (PSc D T aK aV (WIN T v B O g ln un nx pl f0 f1 f2) sz)) (va_Qi (fun r9 (_ : Unit) => (chkB (inN z K) "java/lang/IndexOutOfBoundsException") = none ∧ r9 = (cntI (fun k => decide ((O 0) 8 k = 1) && decide ((O 0) 10 k = z)) N 0 0)) (fun _ t => QS D T (va_A (WIN T v B O g ln un nx pl f0 f1 f2) sz) (WIN T v B O g ln un nx pl f0 f1 f2) t) (va_A (WIN T v B O g ln un nx pl f0 f1 f2) sz)) (vx_X (fun (_ : Unit) => True) (fun E _ t => (chkB (inN z K) "java/lang/IndexOutOfBoundsException") = some E ∧ QS D T (va_A (WIN T v B O g ln un nx pl f0 f1 f2) sz) (WIN T v B O g ln un nx pl f0 f1 f2) t) (va_A (WIN T v B O g ln un nx pl f0 f1 f2) sz)) 1 6 (va_A (WIN T v B O g ln un nx pl f0 f1 f2) sz) := by
  refine metXi (cc := cX9_answeredBy) (maxL := 2) (ty := .int) (by decide) rfl (by rfl) (Nat.le_of_ble_eq_true rfl) ?_
  intro p e s m args below meth c Qc XC free ls A hx hb hml hown hts hC hP hK hD hA hS hl htab hlocks hfr hret hthr
  have hown : s.vm.findClass RX9 = some m.cls := hown
  have hl : lv_has ls 2 [(0, .ref (v 0)), (1, .int (z))] := hl
  have i3 : ∀ w ∈ wsX30, w ∈ wsX9_answeredBy := by decide +kernel
  have i9 : ∀ w ∈ wsX90, w ∈ wsX9_answeredBy := by decide +kernel
  have w1 := hts (Cond.fieldLink RX9 19 "MoonComplaintWindow" "office" "LMoonComplaintWindow$Office;") (List.mem_of_getElem? (i := 1) rfl)
  have w2 := hts (Cond.fieldLink RX9 107 "MoonComplaintWindow$Office" "pile" "LMoonComplaintWindow$Pile;") (List.mem_of_getElem? (i := 2) rfl)
  obtain ⟨hN, hN2, hKn, hK2, hCn, hC1, hC2, hn, hnt, hSK⟩ := id hOI
  refine lv_aload_n hx hb dX9_answeredBy_0 rfl (lv_at hl 0 rfl) ?_
  refine lv_iload_n hx hb dX9_answeredBy_1 rfl (lv_at hl 1 rfl) ?_
  refine wxVv (As := [.int (z)]) (rest := []) ⟨hx, hb, hml, hown, hts⟩ (c_X9_checkClerk l hl9 D T aK aV v B O g ln un nx pl f0 f1 f2 z N K C nt hOI _) (cwV 1 hts gX9_answeredBy_X9_checkClerk rfl rfl rfl (by decide +kernel) ⟨Nat.le_of_ble_eq_true rfl, Nat.le_of_ble_eq_true rfl⟩) (Foc.rfl _ _) (Foc.rfl _ _) hC hK hP hD hS hA 0 rfl rfl rfl hl.1 rfl (Nat.le_of_ble_eq_true rfl) ⟨Nat.le_of_ble_eq_true rfl, Nat.le_of_ble_eq_true rfl⟩ dX9_answeredBy_2 (fun E ce q9 H1 locs1 hE hP1 hD1 hS1 hce hcv hcl => vx_out (fun x hx => (htab x hx).elim) hlocks hce hcv hcl (fun t ht hv => hthr H1 locs1 E t (by first | exact hE | (simp only [orE, true_and, hE]; done) | (simp [orE, true_and, hE]; done)) hP1 hD1 hS1 hv (by rw [ht]; exact Nat.le_refl _) (fun q _ => by rw [ht])) (fun z hz => hfr _ (hS1.2.2 z hz)) (by decide) (by decide)) (fun H locs x2 hP hD hS => ?_)
  have hP : va_P D vwCl (WIN T v B O g ln un nx pl f0 f1 f2) H := hP
  have hD : va_D A (WIN T v B O g ln un nx pl f0 f1 f2) := hD
  refine lv_aload_n hx hb dX9_answeredBy_5 rfl (lv_at hl 0 rfl) ?_
  refine va_get (D := D) (ci := 9) (v := .ref ((B 0) 0)) (C := RX9) (T := TX9) (N := 6) hx hb hts i9 hown hK hP 0 rfl rfl 1 (by decide) w1 (fun _ h9 => h9) rfl dX9_answeredBy_6 ?_
  refine va_get (D := D) (ci := 3) (v := .ref ((B 0) 6)) (C := RX3) (T := TX3) (N := 4) hx hb hts i3 hown hK hP (14 * 0 + 0 + 11) (WIN_get (by decide) (by decide) rfl) rfl 3 (by decide) w2 (fun _ h9 => h9) rfl dX9_answeredBy_9 ?_
  refine lv_iload_n hx hb dX9_answeredBy_12 rfl (lv_at hl 1 rfl) ?_
  refine rdV (As := [.int (z)]) (rest := []) ⟨hx, hb, hml, hown, hts⟩ (c_X5_countAnsweredBy l D T (B 0) (O 0) z N hN hN2) (cwV 1 hts gX9_answeredBy_X5_countAnsweredBy rfl rfl rfl (by decide +kernel) ⟨Nat.le_of_ble_eq_true rfl, Nat.le_of_ble_eq_true rfl⟩) hK ((WIN_off (j := 0) (by decide) (O 0)).subP hP) 6 rfl rfl rfl hl.1 rfl (Nat.le_of_ble_eq_true rfl) ⟨Nat.le_of_ble_eq_true rfl, Nat.le_of_ble_eq_true rfl⟩ dX9_answeredBy_13 ?_
  refine endI (r := cntI (fun k => decide ((O 0) 8 k = 1) && decide ((O 0) 10 k = z)) N 0 0) (by rfl) ?_
  exact hret _ _ _ _ _ _ dX9_answeredBy_16 (by first | rfl | (simp only [orE, x2]; done) | (simp only [orE, x2] <;> simp [chkB, x2]; done) | (simp [orE, chkB, x2]; done) | ((first | have x2x := Int32.not_lt.mp x2 | have x2x := Int32.not_le.mp x2 | have x2x := Int32.not_lt.mpr x2 | have x2x := Int32.not_le.mpr x2 | have x2x := x2); simp [orE, chkB, x2, x2x]; done)) hP hD hS (by decide) (by decide)

set_option maxHeartbeats 4000000 in
set_option maxRecDepth 100000 in
theorem c_X9_errorOffset (l : Launch) (hl9 : l.stackTraces = false) (D : va_G) (T : Nat → ClassId) (aK aV : Nat → Nat) (v : Nat → Nat) (B : Nat → Nat → Nat) (O : Nat → Nat → Nat → Int32) (g : CSt) (ln un nx pl : Nat) (f0 f1 f2 : Nat → Int32) (sz : Nat) : vx_Met l yX9_errorOffset wsX9_errorOffset ({ frames := 6, cells := 1, slots := 6, locals := 90 } : Room) (va_Pc [.ref (v 0)] (PSc D T aK aV (WIN T v B O g ln un nx pl f0 f1 f2) sz)) (va_Qi (fun r9 (_ : Unit) => (chkB (g.2.2.2.1) "java/util/NoSuchElementException") = none ∧ r9 = g.2.2.2.2) (fun _ t => QS D T (va_A (WIN T v B O g ln un nx pl f0 f1 f2) sz) (WIN T v B O g ln un nx pl f0 f1 f2) t) (va_A (WIN T v B O g ln un nx pl f0 f1 f2) sz)) (vx_X (fun (_ : Unit) => True) (fun E _ t => (chkB (g.2.2.2.1) "java/util/NoSuchElementException") = some E ∧ QS D T (va_A (WIN T v B O g ln un nx pl f0 f1 f2) sz) (WIN T v B O g ln un nx pl f0 f1 f2) t) (va_A (WIN T v B O g ln un nx pl f0 f1 f2) sz)) 1 6 (va_A (WIN T v B O g ln un nx pl f0 f1 f2) sz) := by
  refine metXi (cc := cX9_errorOffset) (maxL := 1) (ty := .int) (by decide) rfl (by rfl) (Nat.le_of_ble_eq_true rfl) ?_
  intro p e s m args below meth c Qc XC free ls A hx hb hml hown hts hC hP hK hD hA hS hl htab hlocks hfr hret hthr
  have hown : s.vm.findClass RX9 = some m.cls := hown
  have hl : lv_has ls 1 [(0, .ref (v 0))] := hl
  have i2 : ∀ w ∈ wsX20, w ∈ wsX9_errorOffset := by decide +kernel
  have i9 : ∀ w ∈ wsX90, w ∈ wsX9_errorOffset := by decide +kernel
  have w1 := hts (Cond.classLink RX9 116 "java/util/NoSuchElementException") (List.mem_of_getElem? (i := 1) rfl)
  have w2 := hts (Cond.initialized "java/util/NoSuchElementException") (List.mem_of_getElem? (i := 2) rfl)
  have w3 := hts (Cond.fieldLink RX9 12 "MoonComplaintWindow" "loader" "LMoonComplaintWindow$Loader;") (List.mem_of_getElem? (i := 3) rfl)
  have w4 := hts (Cond.fieldLink RX9 97 "MoonComplaintWindow$Loader" "failed" "Z") (List.mem_of_getElem? (i := 4) rfl)
  have w5 := hts (Cond.fieldLink RX9 121 "MoonComplaintWindow$Loader" "errorOffset" "I") (List.mem_of_getElem? (i := 5) rfl)
  refine lv_aload_n hx hb dX9_errorOffset_0 rfl (lv_at hl 0 rfl) ?_
  refine va_get (D := D) (ci := 9) (v := .ref (v 1)) (C := RX9) (T := TX9) (N := 6) hx hb hts i9 hown hK hP 0 rfl rfl 0 (by decide) w3 (fun _ h9 => h9) rfl dX9_errorOffset_1 ?_
  refine va_get (D := D) (ci := 2) (v := .int (bI g.2.2.2.1)) (C := RX2) (T := TX2) (N := 4) hx hb hts i2 hown hK hP 1 rfl rfl 0 (by decide) w4 (fun _ h9 => h9) rfl dX9_errorOffset_4 ?_
  refine lv_if_ne (tgt := 20) hx hb dX9_errorOffset_7 (by decide) (fun c7 => ?_) (fun c7 => ?_)
  ·
    have c7 := bI_n0.mp c7
    refine lv_aload_n hx hb dX9_errorOffset_20 rfl (lv_at hl 0 rfl) ?_
    refine va_get (D := D) (ci := 9) (v := .ref (v 1)) (C := RX9) (T := TX9) (N := 6) hx hb hts i9 hown hK hP 0 rfl rfl 0 (by decide) w3 (fun _ h9 => h9) rfl dX9_errorOffset_21 ?_
    refine va_get (D := D) (ci := 2) (v := .int (g.2.2.2.2)) (C := RX2) (T := TX2) (N := 4) hx hb hts i2 hown hK hP 1 rfl rfl 1 (by decide) w5 (fun _ h9 => h9) rfl dX9_errorOffset_24 ?_
    refine endI (r := g.2.2.2.2) (by first | rfl | (simp [bI, c7]; done) | ((first | have c7x := Int32.not_lt.mp c7 | have c7x := Int32.not_le.mp c7 | have c7x := Int32.not_lt.mpr c7 | have c7x := Int32.not_le.mpr c7 | have c7x := c7); simp [bI, c7, c7x]; done)) ?_
    exact hret _ _ _ _ _ _ dX9_errorOffset_27 (by first | rfl | (simp only [orE, c7]; done) | (simp only [orE, c7] <;> simp [chkB, c7]; done) | (simp [orE, chkB, c7]; done) | ((first | have c7x := Int32.not_lt.mp c7 | have c7x := Int32.not_le.mp c7 | have c7x := Int32.not_lt.mpr c7 | have c7x := Int32.not_le.mpr c7 | have c7x := c7); simp [orE, chkB, c7, c7x]; done)) hP hD hS (by decide) (by decide)
  ·
    have c7 := bI_0.mp c7
    exact vx_throwN (cls := "java/util/NoSuchElementException") (names := supL) (text := "no error") (sa := aK 12) hx hb hl9 hown (by decide +kernel) (by decide +kernel) w1 w2 (show vk_R RX9 118 "no error" (aK 12) s from hC.2.1 12 (by decide)) (vx_hat (B := badW "java/util/NoSuchElementException") (fun w hw => hts w (List.mem_cons_of_mem _ (List.mem_append_right _ hw))) tb_120 (hC.2.2.2.2.use (by decide +kernel))) tg_120 hC.2.2.1 hC.2.2.2.1 hS (hl.1.trans hml.symm) dX9_errorOffset_10 dX9_errorOffset_13 dX9_errorOffset_14 dX9_errorOffset_16 dX9_errorOffset_19 (fun x hx => (htab x hx).elim) (by decide) (Nat.le_of_ble_eq_true rfl) (Nat.le_of_ble_eq_true rfl) (Nat.le_of_ble_eq_true rfl) hlocks (fun t hv hz hk => hthr _ _ _ t (by first | rfl | (simp only [orE, c7]; done) | (simp only [orE, c7] <;> simp [chkB, c7]; done) | (simp [orE, chkB, c7]; done) | ((first | have c7x := Int32.not_lt.mp c7 | have c7x := Int32.not_le.mp c7 | have c7x := Int32.not_lt.mpr c7 | have c7x := Int32.not_le.mpr c7 | have c7x := c7); simp [orE, chkB, c7, c7x]; done)) hP hD hS hv hz hk) (fun z hz => hfr _ (hS.2.2 z hz)) (by decide) (by decide)
