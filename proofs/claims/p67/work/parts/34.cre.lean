set_option maxHeartbeats 4000000 in
set_option maxRecDepth 100000 in
theorem c_X2_readMoon (l : Launch) (D : va_G) (T : Nat → ClassId) (aK aV : Nat → Nat) (v : Nat → Nat) (B : Nat → Nat → Nat) (O : Nat → Nat → Nat → Int32) (g : CSt) (ln un nx pl : Nat) (f0 f1 f2 : Nat → Int32) (hL2 : ln ≤ 600) (hgo : gOK ln g) (hby : ∀ i, i < ln → ¬ f0 i = -1) (sz : Nat) : Met l yX2_readMoon wsX2_readMoon ({ frames := 6, cells := 0, slots := 0, locals := 128 } : Room) (va_Pc [.ref (v 1), .ref ((B 2) 1)] (PSc D T aK aV (WIN T v B O g ln un nx pl f0 f1 f2) sz)) (va_Qv (fun (_ : Unit) => True) (fun _ t => QS D T (va_A (WIN T v B O g ln un nx pl f0 f1 f2) sz) (WIN T v B (va_up O 2 ((moonC f0 ln (O 2, g)).1)) ((moonC f0 ln (O 2, g)).2) ln un nx pl f0 f1 f2) t) (va_A (WIN T v B O g ln un nx pl f0 f1 f2) sz)) 0 0 (va_A (WIN T v B O g ln un nx pl f0 f1 f2) sz) := by
  refine metCv (cc := cX2_readMoon) (maxL := 2) (by decide) rfl (Nat.le_of_ble_eq_true rfl) ?_
  intro p e s m args below meth c Q ls A hx hb hml hown hts hC hP hK hD hA hS hl hret
  have hown : s.vm.findClass RX2 = some m.cls := hown
  have hl : lv_has ls 2 [(0, .ref (v 1)), (1, .ref ((B 2) 1))] := hl
  have i6 : ∀ w ∈ wsX60, w ∈ wsX2_readMoon := by decide +kernel
  have w1 := hts (Cond.fieldLink RX2 87 "MoonComplaintWindow$Sky" "glareLimit" "I") (List.mem_of_getElem? (i := 1) rfl)
  have w2 := hts (Cond.fieldLink RX2 90 "MoonComplaintWindow$Sky" "gloomLimit" "I") (List.mem_of_getElem? (i := 2) rfl)
  have w3 := hts (Cond.fieldLink RX2 93 "MoonComplaintWindow$Sky" "tideLimit" "I") (List.mem_of_getElem? (i := 3) rfl)
  have h1 := takW_ok (f := f0) (i := 1) hgo
  have h2 := takN_ok (f := f0) (lo := 1) (hi := 14) h1
  have h3 := takN_ok (f := f0) (lo := 0) (hi := 13) h2
  have h4 := takN_ok (f := f0) (lo := 0) (hi := 7) h3
  refine lv_aload_n hx hb dX2_readMoon_0 rfl (lv_at hl 0 rfl) ?_
  refine va_ldcS hx hb hown (show vk_R RX2 75 "moon" (aK 1) s from hC.2.1 1 (by decide)) dX2_readMoon_1 ?_
  refine wcVv (As := [.ref (aK 1)]) (rest := []) ⟨hx, hb, hml, hown, hts⟩ (c_X2_takeWord l D T aK aV v B O g ln un nx pl f0 f1 f2 1 hL2 hgo hby (by decide) _) (cwV 1 hts gX2_readMoon_X2_takeWord rfl rfl rfl (by decide +kernel) ⟨Nat.le_of_ble_eq_true rfl, Nat.le_of_ble_eq_true rfl⟩) (Foc.rfl _ _) hC hK hP hD hS hA 1 rfl rfl rfl hl.1 rfl (Nat.le_of_ble_eq_true rfl) ⟨Nat.zero_le _, Nat.zero_le _⟩ dX2_readMoon_3 (fun H locs hP hD hS => ?_)
  have hP : va_P D vwCl (WIN T v B O (takW f0 ln 1 g) ln un nx pl f0 f1 f2) H := hP
  have hD : va_D A (WIN T v B O (takW f0 ln 1 g) ln un nx pl f0 f1 f2) := hD
  refine lv_aload_n hx hb dX2_readMoon_6 rfl (lv_at hl 1 rfl) ?_
  refine lv_aload_n hx hb dX2_readMoon_7 rfl (lv_at hl 0 rfl) ?_
  refine lv_iconst (v := 1) hx hb dX2_readMoon_8 (by decide) ?_
  refine lv_bipush (v := 14) hx hb dX2_readMoon_9 (by decide) ?_
  refine wrVi (As := [.int (1), .int (14)]) (rest := [.ref ((B 2) 1)]) ⟨hx, hb, hml, hown, hts⟩ (c_X2_takeNumber l D T v B O (takW f0 ln 1 g) ln un nx pl f0 f1 f2 1 14 hL2 h1 hby _) (cwV 2 hts gX2_readMoon_X2_takeNumber rfl rfl rfl (by decide +kernel) ⟨Nat.le_of_ble_eq_true rfl, Nat.le_of_ble_eq_true rfl⟩) (Foc.rfl _ _) hK hP hD hS hA 1 rfl rfl rfl hl.1 rfl (Nat.le_of_ble_eq_true rfl) ⟨Nat.zero_le _, Nat.zero_le _⟩ dX2_readMoon_11 (fun H locs hP hD hS => ?_)
  have hP : va_P D vwCl (WIN T v B O (takN f0 ln 1 14 (takW f0 ln 1 g)) ln un nx pl f0 f1 f2) H := hP
  have hD : va_D A (WIN T v B O (takN f0 ln 1 14 (takW f0 ln 1 g)) ln un nx pl f0 f1 f2) := hD
  refine va_put (D := D) (ci := 6) (v := .int (numV f0 1 14 (takW f0 ln 1 g))) (ty := .int) (C := RX6) (T := TX6) (N := 5) hx hb hts i6 tyX6 tyX6_ok nmX6 hown hK hP hD hS (14 * 2 + 1 + 11) (WIN_get (by decide) (by decide) rfl) rfl 0 (by decide) w1 (fun _ h9 => h9) rfl (by decide +kernel) rfl rfl (Nat.le_of_ble_eq_true rfl) dX2_readMoon_14 (fun H locs hP hD hS => ?_)
  have hP := WIN_setP (j := 2) (k := 1) (o1 := dS (O 2) 1 (numV f0 1 14 (takW f0 ln 1 g))) (by decide) (by decide) hP rfl
  have hD := WIN_setD (j := 2) (k := 1) (o1 := dS (O 2) 1 (numV f0 1 14 (takW f0 ln 1 g))) (by decide) (by decide) hD rfl
  have hP : va_P D vwCl (WIN T v B (va_up O 2 (dS (O 2) 1 (numV f0 1 14 (takW f0 ln 1 g)))) (takN f0 ln 1 14 (takW f0 ln 1 g)) ln un nx pl f0 f1 f2) H := hP
  have hD : va_D A (WIN T v B (va_up O 2 (dS (O 2) 1 (numV f0 1 14 (takW f0 ln 1 g)))) (takN f0 ln 1 14 (takW f0 ln 1 g)) ln un nx pl f0 f1 f2) := hD
  refine lv_aload_n hx hb dX2_readMoon_17 rfl (lv_at hl 1 rfl) ?_
  refine lv_aload_n hx hb dX2_readMoon_18 rfl (lv_at hl 0 rfl) ?_
  refine lv_iconst (v := 0) hx hb dX2_readMoon_19 (by decide) ?_
  refine lv_bipush (v := 13) hx hb dX2_readMoon_20 (by decide) ?_
  refine wrVi (As := [.int (0), .int (13)]) (rest := [.ref ((B 2) 1)]) ⟨hx, hb, hml, hown, hts⟩ (c_X2_takeNumber l D T v B (va_up O 2 (dS (O 2) 1 (numV f0 1 14 (takW f0 ln 1 g)))) (takN f0 ln 1 14 (takW f0 ln 1 g)) ln un nx pl f0 f1 f2 0 13 hL2 h2 hby _) (cwV 2 hts gX2_readMoon_X2_takeNumber rfl rfl rfl (by decide +kernel) ⟨Nat.le_of_ble_eq_true rfl, Nat.le_of_ble_eq_true rfl⟩) (Foc.rfl _ _) hK hP hD hS hA 1 rfl rfl rfl hl.1 rfl (Nat.le_of_ble_eq_true rfl) ⟨Nat.zero_le _, Nat.zero_le _⟩ dX2_readMoon_22 (fun H locs hP hD hS => ?_)
  have hP : va_P D vwCl (WIN T v B (va_up O 2 (dS (O 2) 1 (numV f0 1 14 (takW f0 ln 1 g)))) (takN f0 ln 0 13 (takN f0 ln 1 14 (takW f0 ln 1 g))) ln un nx pl f0 f1 f2) H := hP
  have hD : va_D A (WIN T v B (va_up O 2 (dS (O 2) 1 (numV f0 1 14 (takW f0 ln 1 g)))) (takN f0 ln 0 13 (takN f0 ln 1 14 (takW f0 ln 1 g))) ln un nx pl f0 f1 f2) := hD
  refine va_put (D := D) (ci := 6) (v := .int (numV f0 0 13 (takN f0 ln 1 14 (takW f0 ln 1 g)))) (ty := .int) (C := RX6) (T := TX6) (N := 5) hx hb hts i6 tyX6 tyX6_ok nmX6 hown hK hP hD hS (14 * 2 + 1 + 11) (WIN_get (by decide) (by decide) rfl) rfl 1 (by decide) w2 (fun _ h9 => h9) rfl (by decide +kernel) rfl rfl (Nat.le_of_ble_eq_true rfl) dX2_readMoon_25 (fun H locs hP hD hS => ?_)
  have hP := WIN_setP (j := 2) (k := 1) (o1 := dS (dS (O 2) 1 (numV f0 1 14 (takW f0 ln 1 g))) 2 (numV f0 0 13 (takN f0 ln 1 14 (takW f0 ln 1 g)))) (by decide) (by decide) hP rfl
  have hD := WIN_setD (j := 2) (k := 1) (o1 := dS (dS (O 2) 1 (numV f0 1 14 (takW f0 ln 1 g))) 2 (numV f0 0 13 (takN f0 ln 1 14 (takW f0 ln 1 g)))) (by decide) (by decide) hD rfl
  rw [WIN_uu] at hP hD
  have hP : va_P D vwCl (WIN T v B (va_up O 2 (dS (dS (O 2) 1 (numV f0 1 14 (takW f0 ln 1 g))) 2 (numV f0 0 13 (takN f0 ln 1 14 (takW f0 ln 1 g))))) (takN f0 ln 0 13 (takN f0 ln 1 14 (takW f0 ln 1 g))) ln un nx pl f0 f1 f2) H := hP
  have hD : va_D A (WIN T v B (va_up O 2 (dS (dS (O 2) 1 (numV f0 1 14 (takW f0 ln 1 g))) 2 (numV f0 0 13 (takN f0 ln 1 14 (takW f0 ln 1 g))))) (takN f0 ln 0 13 (takN f0 ln 1 14 (takW f0 ln 1 g))) ln un nx pl f0 f1 f2) := hD
  refine lv_aload_n hx hb dX2_readMoon_28 rfl (lv_at hl 1 rfl) ?_
  refine lv_aload_n hx hb dX2_readMoon_29 rfl (lv_at hl 0 rfl) ?_
  refine lv_iconst (v := 0) hx hb dX2_readMoon_30 (by decide) ?_
  refine lv_bipush (v := 7) hx hb dX2_readMoon_31 (by decide) ?_
  refine wrVi (As := [.int (0), .int (7)]) (rest := [.ref ((B 2) 1)]) ⟨hx, hb, hml, hown, hts⟩ (c_X2_takeNumber l D T v B (va_up O 2 (dS (dS (O 2) 1 (numV f0 1 14 (takW f0 ln 1 g))) 2 (numV f0 0 13 (takN f0 ln 1 14 (takW f0 ln 1 g))))) (takN f0 ln 0 13 (takN f0 ln 1 14 (takW f0 ln 1 g))) ln un nx pl f0 f1 f2 0 7 hL2 h3 hby _) (cwV 2 hts gX2_readMoon_X2_takeNumber rfl rfl rfl (by decide +kernel) ⟨Nat.le_of_ble_eq_true rfl, Nat.le_of_ble_eq_true rfl⟩) (Foc.rfl _ _) hK hP hD hS hA 1 rfl rfl rfl hl.1 rfl (Nat.le_of_ble_eq_true rfl) ⟨Nat.zero_le _, Nat.zero_le _⟩ dX2_readMoon_33 (fun H locs hP hD hS => ?_)
  have hP : va_P D vwCl (WIN T v B (va_up O 2 (dS (dS (O 2) 1 (numV f0 1 14 (takW f0 ln 1 g))) 2 (numV f0 0 13 (takN f0 ln 1 14 (takW f0 ln 1 g))))) (takN f0 ln 0 7 (takN f0 ln 0 13 (takN f0 ln 1 14 (takW f0 ln 1 g)))) ln un nx pl f0 f1 f2) H := hP
  have hD : va_D A (WIN T v B (va_up O 2 (dS (dS (O 2) 1 (numV f0 1 14 (takW f0 ln 1 g))) 2 (numV f0 0 13 (takN f0 ln 1 14 (takW f0 ln 1 g))))) (takN f0 ln 0 7 (takN f0 ln 0 13 (takN f0 ln 1 14 (takW f0 ln 1 g)))) ln un nx pl f0 f1 f2) := hD
  refine va_put (D := D) (ci := 6) (v := .int (numV f0 0 7 (takN f0 ln 0 13 (takN f0 ln 1 14 (takW f0 ln 1 g))))) (ty := .int) (C := RX6) (T := TX6) (N := 5) hx hb hts i6 tyX6 tyX6_ok nmX6 hown hK hP hD hS (14 * 2 + 1 + 11) (WIN_get (by decide) (by decide) rfl) rfl 2 (by decide) w3 (fun _ h9 => h9) rfl (by decide +kernel) rfl rfl (Nat.le_of_ble_eq_true rfl) dX2_readMoon_36 (fun H locs hP hD hS => ?_)
  have hP := WIN_setP (j := 2) (k := 1) (o1 := dS (dS (dS (O 2) 1 (numV f0 1 14 (takW f0 ln 1 g))) 2 (numV f0 0 13 (takN f0 ln 1 14 (takW f0 ln 1 g)))) 3 (numV f0 0 7 (takN f0 ln 0 13 (takN f0 ln 1 14 (takW f0 ln 1 g))))) (by decide) (by decide) hP rfl
  have hD := WIN_setD (j := 2) (k := 1) (o1 := dS (dS (dS (O 2) 1 (numV f0 1 14 (takW f0 ln 1 g))) 2 (numV f0 0 13 (takN f0 ln 1 14 (takW f0 ln 1 g)))) 3 (numV f0 0 7 (takN f0 ln 0 13 (takN f0 ln 1 14 (takW f0 ln 1 g))))) (by decide) (by decide) hD rfl
  rw [WIN_uu] at hP hD
  have hP : va_P D vwCl (WIN T v B (va_up O 2 (dS (dS (dS (O 2) 1 (numV f0 1 14 (takW f0 ln 1 g))) 2 (numV f0 0 13 (takN f0 ln 1 14 (takW f0 ln 1 g)))) 3 (numV f0 0 7 (takN f0 ln 0 13 (takN f0 ln 1 14 (takW f0 ln 1 g)))))) (takN f0 ln 0 7 (takN f0 ln 0 13 (takN f0 ln 1 14 (takW f0 ln 1 g)))) ln un nx pl f0 f1 f2) H := hP
  have hD : va_D A (WIN T v B (va_up O 2 (dS (dS (dS (O 2) 1 (numV f0 1 14 (takW f0 ln 1 g))) 2 (numV f0 0 13 (takN f0 ln 1 14 (takW f0 ln 1 g)))) 3 (numV f0 0 7 (takN f0 ln 0 13 (takN f0 ln 1 14 (takW f0 ln 1 g)))))) (takN f0 ln 0 7 (takN f0 ln 0 13 (takN f0 ln 1 14 (takW f0 ln 1 g)))) ln un nx pl f0 f1 f2) := hD
  refine lv_aload_n hx hb dX2_readMoon_39 rfl (lv_at hl 0 rfl) ?_
  refine wrVv (As := []) (rest := []) ⟨hx, hb, hml, hown, hts⟩ (c_X2_takeSemicolon l D T v B (va_up O 2 (dS (dS (dS (O 2) 1 (numV f0 1 14 (takW f0 ln 1 g))) 2 (numV f0 0 13 (takN f0 ln 1 14 (takW f0 ln 1 g)))) 3 (numV f0 0 7 (takN f0 ln 0 13 (takN f0 ln 1 14 (takW f0 ln 1 g)))))) (takN f0 ln 0 7 (takN f0 ln 0 13 (takN f0 ln 1 14 (takW f0 ln 1 g)))) ln un nx pl f0 f1 f2 hL2 h4 hby _) (cwV 0 hts gX2_readMoon_X2_takeSemicolon rfl rfl rfl (by decide +kernel) ⟨Nat.le_of_ble_eq_true rfl, Nat.le_of_ble_eq_true rfl⟩) (Foc.rfl _ _) hK hP hD hS hA 1 rfl rfl rfl hl.1 rfl (Nat.le_of_ble_eq_true rfl) ⟨Nat.zero_le _, Nat.zero_le _⟩ dX2_readMoon_40 (fun H locs hP hD hS => ?_)
  have hP : va_P D vwCl (WIN T v B (va_up O 2 (dS (dS (dS (O 2) 1 (numV f0 1 14 (takW f0 ln 1 g))) 2 (numV f0 0 13 (takN f0 ln 1 14 (takW f0 ln 1 g)))) 3 (numV f0 0 7 (takN f0 ln 0 13 (takN f0 ln 1 14 (takW f0 ln 1 g)))))) (takS f0 ln (takN f0 ln 0 7 (takN f0 ln 0 13 (takN f0 ln 1 14 (takW f0 ln 1 g))))) ln un nx pl f0 f1 f2) H := hP
  have hD : va_D A (WIN T v B (va_up O 2 (dS (dS (dS (O 2) 1 (numV f0 1 14 (takW f0 ln 1 g))) 2 (numV f0 0 13 (takN f0 ln 1 14 (takW f0 ln 1 g)))) 3 (numV f0 0 7 (takN f0 ln 0 13 (takN f0 ln 1 14 (takW f0 ln 1 g)))))) (takS f0 ln (takN f0 ln 0 7 (takN f0 ln 0 13 (takN f0 ln 1 14 (takW f0 ln 1 g))))) ln un nx pl f0 f1 f2) := hD
  have hE : (WIN T v B (va_up O 2 (dS (dS (dS (O 2) 1 (numV f0 1 14 (takW f0 ln 1 g))) 2 (numV f0 0 13 (takN f0 ln 1 14 (takW f0 ln 1 g)))) 3 (numV f0 0 7 (takN f0 ln 0 13 (takN f0 ln 1 14 (takW f0 ln 1 g)))))) (takS f0 ln (takN f0 ln 0 7 (takN f0 ln 0 13 (takN f0 ln 1 14 (takW f0 ln 1 g))))) ln un nx pl f0 f1 f2 : va_W) = (WIN T v B (va_up O 2 ((moonC f0 ln (O 2, g)).1)) ((moonC f0 ln (O 2, g)).2) ln un nx pl f0 f1 f2) := by rfl
  exact hret _ _ _ _ dX2_readMoon_43 (by rw [← hE]; exact hP) (by rw [← hE]; exact hD) hS

set_option maxHeartbeats 4000000 in
set_option maxRecDepth 100000 in
theorem c_X2_readClouds (l : Launch) (D : va_G) (T : Nat → ClassId) (aK aV : Nat → Nat) (v : Nat → Nat) (B : Nat → Nat → Nat) (O : Nat → Nat → Nat → Int32) (g : CSt) (ln un nx pl : Nat) (f0 f1 f2 : Nat → Int32) (hL2 : ln ≤ 600) (hgo : gOK ln g) (hby : ∀ i, i < ln → ¬ f0 i = -1) (hT4 : O 2 0 4 = nI 0) (sz : Nat) : Met l yX2_readClouds wsX2_readClouds ({ frames := 6, cells := 0, slots := 0, locals := 128 } : Room) (va_Pc [.ref (v 1), .ref ((B 2) 1)] (PSc D T aK aV (WIN T v B O g ln un nx pl f0 f1 f2) sz)) (va_Qv (fun (_ : Unit) => True) (fun _ t => QS D T (va_A (WIN T v B O g ln un nx pl f0 f1 f2) sz) (WIN T v B (va_up O 2 ((cloudsC f0 ln (O 2, g)).2.1)) ((cloudsC f0 ln (O 2, g)).2.2) ln un nx pl f0 f1 f2) t) (va_A (WIN T v B O g ln un nx pl f0 f1 f2) sz)) 0 0 (va_A (WIN T v B O g ln un nx pl f0 f1 f2) sz) := by
  refine metCv (cc := cX2_readClouds) (maxL := 3) (by decide) rfl (Nat.le_of_ble_eq_true rfl) ?_
  intro p e s m args below meth c Q ls A hx hb hml hown hts hC hP hK hD hA hS hl hret
  have hown : s.vm.findClass RX2 = some m.cls := hown
  have hl : lv_has ls 3 [(0, .ref (v 1)), (1, .ref ((B 2) 1))] := hl
  have i1 : ∀ w ∈ wsX10, w ∈ wsX2_readClouds := by decide +kernel
  have i2 : ∀ w ∈ wsX20, w ∈ wsX2_readClouds := by decide +kernel
  have w1 := hts (Cond.fieldLink RX2 25 "MoonComplaintWindow$Loader" "failed" "Z") (List.mem_of_getElem? (i := 1) rfl)
  have w2 := hts (Cond.fieldLink RX2 12 "MoonComplaintWindow$Loader" "input" "LMoonComplaintWindow$Input;") (List.mem_of_getElem? (i := 2) rfl)
  have w3 := hts (Cond.fieldLink RX2 66 "MoonComplaintWindow$Input" "kind" "I") (List.mem_of_getElem? (i := 3) rfl)
  have h1 := takW_ok (f := f0) (i := 2) hgo
  have h2 := takN_ok (f := f0) (lo := 0) (hi := 9) h1
  refine lv_aload_n hx hb dX2_readClouds_0 rfl (lv_at hl 0 rfl) ?_
  refine va_ldcS hx hb hown (show vk_R RX2 99 "clouds" (aK 2) s from hC.2.1 2 (by decide)) dX2_readClouds_1 ?_
  refine wcVv (As := [.ref (aK 2)]) (rest := []) ⟨hx, hb, hml, hown, hts⟩ (c_X2_takeWord l D T aK aV v B O g ln un nx pl f0 f1 f2 2 hL2 hgo hby (by decide) _) (cwV 1 hts gX2_readClouds_X2_takeWord rfl rfl rfl (by decide +kernel) ⟨Nat.le_of_ble_eq_true rfl, Nat.le_of_ble_eq_true rfl⟩) (Foc.rfl _ _) hC hK hP hD hS hA 1 rfl rfl rfl hl.1 rfl (Nat.le_of_ble_eq_true rfl) ⟨Nat.zero_le _, Nat.zero_le _⟩ dX2_readClouds_3 (fun H locs hP hD hS => ?_)
  have hP : va_P D vwCl (WIN T v B O (takW f0 ln 2 g) ln un nx pl f0 f1 f2) H := hP
  have hD : va_D A (WIN T v B O (takW f0 ln 2 g) ln un nx pl f0 f1 f2) := hD
  refine lv_aload_n hx hb dX2_readClouds_6 rfl (lv_at hl 1 rfl) ?_
  refine lv_aload_n hx hb dX2_readClouds_7 rfl (lv_at hl 0 rfl) ?_
  refine lv_iconst (v := 0) hx hb dX2_readClouds_8 (by decide) ?_
  refine lv_bipush (v := 9) hx hb dX2_readClouds_9 (by decide) ?_
  refine wrVi (As := [.int (0), .int (9)]) (rest := [.ref ((B 2) 1)]) ⟨hx, hb, hml, hown, hts⟩ (c_X2_takeNumber l D T v B O (takW f0 ln 2 g) ln un nx pl f0 f1 f2 0 9 hL2 h1 hby _) (cwV 2 hts gX2_readClouds_X2_takeNumber rfl rfl rfl (by decide +kernel) ⟨Nat.le_of_ble_eq_true rfl, Nat.le_of_ble_eq_true rfl⟩) (Foc.rfl _ _) hK hP hD hS hA 1 rfl rfl rfl hl.1 rfl (Nat.le_of_ble_eq_true rfl) ⟨Nat.zero_le _, Nat.zero_le _⟩ dX2_readClouds_11 (fun H locs hP hD hS => ?_)
  have hP : va_P D vwCl (WIN T v B O (takN f0 ln 0 9 (takW f0 ln 2 g)) ln un nx pl f0 f1 f2) H := hP
  have hD : va_D A (WIN T v B O (takN f0 ln 0 9 (takW f0 ln 2 g)) ln un nx pl f0 f1 f2) := hD
  refine wrVv (As := [.int (numV f0 0 9 (takW f0 ln 2 g))]) (rest := []) ⟨hx, hb, hml, hown, hts⟩ (c_X6_addCloud l D T (B 2) (O 2) (numV f0 0 9 (takW f0 ln 2 g)) 0 hT4 (by omega) _) (cwV 1 hts gX2_readClouds_X6_addCloud rfl rfl rfl (by decide +kernel) ⟨Nat.le_of_ble_eq_true rfl, Nat.le_of_ble_eq_true rfl⟩) (WIN_off (j := 2) (by decide) (va_up (va_up (O 2) 0 (va_up ((O 2) 0) 4 (nI (0 + 1)))) 1 (va_up ((O 2) 1) 0 (numV f0 0 9 (takW f0 ln 2 g))))) hK hP hD hS hA 1 rfl rfl rfl hl.1 rfl (Nat.le_of_ble_eq_true rfl) ⟨Nat.zero_le _, Nat.zero_le _⟩ dX2_readClouds_14 (fun H locs hP hD hS => ?_)
  have hP : va_P D vwCl (WIN T v B (va_up O 2 (va_up (va_up (O 2) 0 (va_up ((O 2) 0) 4 (nI (0 + 1)))) 1 (va_up ((O 2) 1) 0 (numV f0 0 9 (takW f0 ln 2 g))))) (takN f0 ln 0 9 (takW f0 ln 2 g)) ln un nx pl f0 f1 f2) H := hP
  have hD : va_D A (WIN T v B (va_up O 2 (va_up (va_up (O 2) 0 (va_up ((O 2) 0) 4 (nI (0 + 1)))) 1 (va_up ((O 2) 1) 0 (numV f0 0 9 (takW f0 ln 2 g))))) (takN f0 ln 0 9 (takW f0 ln 2 g)) ln un nx pl f0 f1 f2) := hD
  have hP : va_P D vwCl (WIN T v B (va_up O 2 (addCl (O 2) 0 (numV f0 0 9 (takW f0 ln 2 g)))) (takN f0 ln 0 9 (takW f0 ln 2 g)) ln un nx pl f0 f1 f2) H := hP
  have hD : va_D A (WIN T v B (va_up O 2 (addCl (O 2) 0 (numV f0 0 9 (takW f0 ln 2 g)))) (takN f0 ln 0 9 (takW f0 ln 2 g)) ln un nx pl f0 f1 f2) := hD
  refine lv_iconst (v := 1) hx hb dX2_readClouds_17 (by decide) ?_
  refine lv_istore_n (lv' := [(2, .int (1)), (0, .ref (v 1)), (1, .ref ((B 2) 1))]) hx hb dX2_readClouds_18 rfl hl (by decide) rfl (fun ls hl => ?_)
  have L19 : ∀ (n9 : Nat) (C : Nat) (o1 : Nat → Nat → Int32) (g1 : CSt), (10 - C) < n9 → (C ≤ 10) → (clL f0 ln (10 - C) C (o1, g1) = clL f0 ln 9 1 (cl1 f0 ln 0 (O 2, takW f0 ln 2 g))) → (gOK ln g1) → (o1 0 4 = nI C) → ∀ (H : Heap) (locs : List Loc) (ls : Array Slot), va_P D vwCl (WIN T v B (va_up O 2 o1) g1 ln un nx pl f0 f1 f2) H → va_D A (WIN T v B (va_up O 2 o1) g1 ln un nx pl f0 f1 f2) → va_S A s.heap H locs → lv_has ls 3 [(2, .int (nI C)), (0, .ref (v 1)), (1, .ref ((B 2) 1))] → W p l e ({ frames := 6, cells := 0, slots := 0, locals := 128 } : Room) s m args below meth c H locs 0 0 Q (F0 m 19 ls []) := by
    intro n9
    induction n9 with
    | zero => intro C o1 g1 hm9; exact absurd hm9 (Nat.not_lt_zero _)
    | succ n9 ih =>
      intro C o1 g1 hm9 hC9 hR hg1 hC4 H locs ls hP hD hS hl
      refine lv_iload_n hx hb dX2_readClouds_19 rfl (lv_at hl 0 rfl) ?_
      refine lv_bipush (v := 10) hx hb dX2_readClouds_20 (by decide) ?_
      refine lv_icmp_ge (tgt := 60) hx hb dX2_readClouds_22 (by decide) (fun c22 => ?_) (fun c22 => ?_)
      ·
        have c22 : 10 ≤ C := (nI_leI (a := 10) (b := C) (by omega) (by omega)).mp c22
        refine lv_aload_n hx hb dX2_readClouds_60 rfl (lv_at hl 1 rfl) ?_
        refine wrVv (As := []) (rest := []) ⟨hx, hb, hml, hown, hts⟩ (c_X2_takeSemicolon l D T v B (va_up O 2 o1) g1 ln un nx pl f0 f1 f2 hL2 hg1 hby _) (cwV 0 hts gX2_readClouds_X2_takeSemicolon rfl rfl rfl (by decide +kernel) ⟨Nat.le_of_ble_eq_true rfl, Nat.le_of_ble_eq_true rfl⟩) (Foc.rfl _ _) hK hP hD hS hA 1 rfl rfl rfl hl.1 rfl (Nat.le_of_ble_eq_true rfl) ⟨Nat.zero_le _, Nat.zero_le _⟩ dX2_readClouds_61 (fun H locs hP hD hS => ?_)
        have hP : va_P D vwCl (WIN T v B (va_up O 2 o1) (takS f0 ln g1) ln un nx pl f0 f1 f2) H := hP
        have hD : va_D A (WIN T v B (va_up O 2 o1) (takS f0 ln g1) ln un nx pl f0 f1 f2) := hD
        have hE : (WIN T v B (va_up O 2 o1) (takS f0 ln g1) ln un nx pl f0 f1 f2 : va_W) = (WIN T v B (va_up O 2 ((cloudsC f0 ln (O 2, g)).2.1)) ((cloudsC f0 ln (O 2, g)).2.2) ln un nx pl f0 f1 f2) := by unfold cloudsC; rw [← hR]; first | (rw [clL_done (by omega)]; done) | (rw [clL_stop hcB]; done)
        exact hret _ _ _ _ dX2_readClouds_64 (by rw [← hE]; exact hP) (by rw [← hE]; exact hD) hS
      ·
        have c22 : ¬ 10 ≤ C := fun h9 => c22 ((nI_leI (a := 10) (b := C) (by omega) (by omega)).mpr h9)
        have c22 : C < 10 := by omega
        refine lv_aload_n hx hb dX2_readClouds_25 rfl (lv_at hl 1 rfl) ?_
        refine va_get (D := D) (ci := 2) (v := .int (bI g1.2.2.2.1)) (C := RX2) (T := TX2) (N := 4) hx hb hts i2 hown hK hP 1 rfl rfl 0 (by decide) w1 (fun _ h9 => h9) rfl dX2_readClouds_26 ?_
        refine lv_if_ne (tgt := 60) hx hb dX2_readClouds_29 (by decide) (fun c29 => ?_) (fun c29 => ?_)
        ·
          have c29 := bI_n0.mp c29
          have hcB : clB (o1, g1) = false := by simp [clB, c29]
          refine lv_aload_n hx hb dX2_readClouds_60 rfl (lv_at hl 1 rfl) ?_
          refine wrVv (As := []) (rest := []) ⟨hx, hb, hml, hown, hts⟩ (c_X2_takeSemicolon l D T v B (va_up O 2 o1) g1 ln un nx pl f0 f1 f2 hL2 hg1 hby _) (cwV 0 hts gX2_readClouds_X2_takeSemicolon rfl rfl rfl (by decide +kernel) ⟨Nat.le_of_ble_eq_true rfl, Nat.le_of_ble_eq_true rfl⟩) (Foc.rfl _ _) hK hP hD hS hA 1 rfl rfl rfl hl.1 rfl (Nat.le_of_ble_eq_true rfl) ⟨Nat.zero_le _, Nat.zero_le _⟩ dX2_readClouds_61 (fun H locs hP hD hS => ?_)
          have hP : va_P D vwCl (WIN T v B (va_up O 2 o1) (takS f0 ln g1) ln un nx pl f0 f1 f2) H := hP
          have hD : va_D A (WIN T v B (va_up O 2 o1) (takS f0 ln g1) ln un nx pl f0 f1 f2) := hD
          have hE : (WIN T v B (va_up O 2 o1) (takS f0 ln g1) ln un nx pl f0 f1 f2 : va_W) = (WIN T v B (va_up O 2 ((cloudsC f0 ln (O 2, g)).2.1)) ((cloudsC f0 ln (O 2, g)).2.2) ln un nx pl f0 f1 f2) := by unfold cloudsC; rw [← hR]; first | (rw [clL_done (by omega)]; done) | (rw [clL_stop hcB]; done)
          exact hret _ _ _ _ dX2_readClouds_64 (by rw [← hE]; exact hP) (by rw [← hE]; exact hD) hS
        ·
          have c29 := bI_0.mp c29
          refine lv_aload_n hx hb dX2_readClouds_32 rfl (lv_at hl 1 rfl) ?_
          refine va_get (D := D) (ci := 2) (v := .ref (v 2)) (C := RX2) (T := TX2) (N := 4) hx hb hts i2 hown hK hP 1 rfl rfl 2 (by decide) w2 (fun _ h9 => h9) rfl dX2_readClouds_33 ?_
          refine va_get (D := D) (ci := 1) (v := .int (g1.1)) (C := RX1) (T := TX1) (N := 5) hx hb hts i1 hown hK hP 2 rfl rfl 1 (by decide) w3 (fun _ h9 => h9) rfl dX2_readClouds_36 ?_
          refine lv_iconst (v := 2) hx hb dX2_readClouds_39 (by decide) ?_
          refine lv_icmp_ne (tgt := 60) hx hb dX2_readClouds_40 (by decide) (fun c40 => ?_) (fun c40 => ?_)
          ·
            have hcB : clB (o1, g1) = false := by simp [clB, c40]
            refine lv_aload_n hx hb dX2_readClouds_60 rfl (lv_at hl 1 rfl) ?_
            refine wrVv (As := []) (rest := []) ⟨hx, hb, hml, hown, hts⟩ (c_X2_takeSemicolon l D T v B (va_up O 2 o1) g1 ln un nx pl f0 f1 f2 hL2 hg1 hby _) (cwV 0 hts gX2_readClouds_X2_takeSemicolon rfl rfl rfl (by decide +kernel) ⟨Nat.le_of_ble_eq_true rfl, Nat.le_of_ble_eq_true rfl⟩) (Foc.rfl _ _) hK hP hD hS hA 1 rfl rfl rfl hl.1 rfl (Nat.le_of_ble_eq_true rfl) ⟨Nat.zero_le _, Nat.zero_le _⟩ dX2_readClouds_61 (fun H locs hP hD hS => ?_)
            have hP : va_P D vwCl (WIN T v B (va_up O 2 o1) (takS f0 ln g1) ln un nx pl f0 f1 f2) H := hP
            have hD : va_D A (WIN T v B (va_up O 2 o1) (takS f0 ln g1) ln un nx pl f0 f1 f2) := hD
            have hE : (WIN T v B (va_up O 2 o1) (takS f0 ln g1) ln un nx pl f0 f1 f2 : va_W) = (WIN T v B (va_up O 2 ((cloudsC f0 ln (O 2, g)).2.1)) ((cloudsC f0 ln (O 2, g)).2.2) ln un nx pl f0 f1 f2) := by unfold cloudsC; rw [← hR]; first | (rw [clL_done (by omega)]; done) | (rw [clL_stop hcB]; done)
            exact hret _ _ _ _ dX2_readClouds_64 (by rw [← hE]; exact hP) (by rw [← hE]; exact hD) hS
          ·
            have hcB : clB (o1, g1) = true := by simp [clB, c29, c40]
            refine lv_aload_n hx hb dX2_readClouds_43 rfl (lv_at hl 2 rfl) ?_
            refine lv_aload_n hx hb dX2_readClouds_44 rfl (lv_at hl 1 rfl) ?_
            refine lv_iconst (v := 0) hx hb dX2_readClouds_45 (by decide) ?_
            refine lv_bipush (v := 9) hx hb dX2_readClouds_46 (by decide) ?_
            refine wrVi (As := [.int (0), .int (9)]) (rest := [.ref ((B 2) 1)]) ⟨hx, hb, hml, hown, hts⟩ (c_X2_takeNumber l D T v B (va_up O 2 o1) g1 ln un nx pl f0 f1 f2 0 9 hL2 hg1 hby _) (cwV 2 hts gX2_readClouds_X2_takeNumber rfl rfl rfl (by decide +kernel) ⟨Nat.le_of_ble_eq_true rfl, Nat.le_of_ble_eq_true rfl⟩) (Foc.rfl _ _) hK hP hD hS hA 1 rfl rfl rfl hl.1 rfl (Nat.le_of_ble_eq_true rfl) ⟨Nat.zero_le _, Nat.zero_le _⟩ dX2_readClouds_48 (fun H locs hP hD hS => ?_)
            have hP : va_P D vwCl (WIN T v B (va_up O 2 o1) (takN f0 ln 0 9 g1) ln un nx pl f0 f1 f2) H := hP
            have hD : va_D A (WIN T v B (va_up O 2 o1) (takN f0 ln 0 9 g1) ln un nx pl f0 f1 f2) := hD
            refine wrVv (As := [.int (numV f0 0 9 g1)]) (rest := []) ⟨hx, hb, hml, hown, hts⟩ (c_X6_addCloud l D T (B 2) o1 (numV f0 0 9 g1) C (by first | (simp only [va_up_at]; exact hC4) | exact hC4) (by omega) _) (cwV 1 hts gX2_readClouds_X6_addCloud rfl rfl rfl (by decide +kernel) ⟨Nat.le_of_ble_eq_true rfl, Nat.le_of_ble_eq_true rfl⟩) (WIN_off (j := 2) (by decide) (va_up (va_up o1 0 (va_up (o1 0) 4 (nI (C + 1)))) 1 (va_up (o1 1) C (numV f0 0 9 g1)))) hK hP hD hS hA 1 rfl rfl rfl hl.1 rfl (Nat.le_of_ble_eq_true rfl) ⟨Nat.zero_le _, Nat.zero_le _⟩ dX2_readClouds_51 (fun H locs hP hD hS => ?_)
            rw [WIN_uu] at hP hD
            have hP : va_P D vwCl (WIN T v B (va_up O 2 (va_up (va_up o1 0 (va_up (o1 0) 4 (nI (C + 1)))) 1 (va_up (o1 1) C (numV f0 0 9 g1)))) (takN f0 ln 0 9 g1) ln un nx pl f0 f1 f2) H := hP
            have hD : va_D A (WIN T v B (va_up O 2 (va_up (va_up o1 0 (va_up (o1 0) 4 (nI (C + 1)))) 1 (va_up (o1 1) C (numV f0 0 9 g1)))) (takN f0 ln 0 9 g1) ln un nx pl f0 f1 f2) := hD
            have hP : va_P D vwCl (WIN T v B (va_up O 2 (addCl o1 C (numV f0 0 9 g1))) (takN f0 ln 0 9 g1) ln un nx pl f0 f1 f2) H := hP
            have hD : va_D A (WIN T v B (va_up O 2 (addCl o1 C (numV f0 0 9 g1))) (takN f0 ln 0 9 g1) ln un nx pl f0 f1 f2) := hD
            refine lv_iinc (v := nI (C + 1)) (lv' := [(2, .int (nI (C + 1))), (0, .ref (v 1)), (1, .ref ((B 2) 1))]) hx hb dX2_readClouds_54 hl (k := 0) rfl (nI_1 _) (by decide) rfl (fun ls hl => ?_)
            refine lv_goto (tgt := 19) hx hb dX2_readClouds_57 (by decide) ?_
            exact ih (C + 1) (addCl o1 C (numV f0 0 9 g1)) (takN f0 ln 0 9 g1) (by omega) (by omega) (by rw [clL_step c22 hcB] at hR; exact hR) (by exact takN_ok hg1) (by rfl) _ _ _ hP hD hS (lv_sub hl [0, 1, 2] rfl)
  exact L19 _ 1 (addCl (O 2) 0 (numV f0 0 9 (takW f0 ln 2 g))) (takN f0 ln 0 9 (takW f0 ln 2 g)) (Nat.lt_succ_self _) (by omega) (by rfl) (by exact h2) (by rfl) _ _ _ hP hD hS (lv_sub hl [0, 1, 2] rfl)

set_option maxHeartbeats 4000000 in
set_option maxRecDepth 100000 in
theorem c_X2_readClerks (l : Launch) (D : va_G) (T : Nat → ClassId) (aK aV : Nat → Nat) (v : Nat → Nat) (B : Nat → Nat → Nat) (O : Nat → Nat → Nat → Int32) (g : CSt) (ln un nx pl : Nat) (f0 f1 f2 : Nat → Int32) (hL2 : ln ≤ 600) (hgo : gOK ln g) (hby : ∀ i, i < ln → ¬ f0 i = -1) (hT5 : O 2 0 5 = nI 0) (sz : Nat) : Met l yX2_readClerks wsX2_readClerks ({ frames := 6, cells := 0, slots := 0, locals := 128 } : Room) (va_Pc [.ref (v 1), .ref ((B 2) 3)] (PSc D T aK aV (WIN T v B O g ln un nx pl f0 f1 f2) sz)) (va_Qv (fun (_ : Unit) => True) (fun _ t => QS D T (va_A (WIN T v B O g ln un nx pl f0 f1 f2) sz) (WIN T v B (va_up O 2 ((ckL f0 ln 5 0 (O 2, g)).2.1)) ((ckL f0 ln 5 0 (O 2, g)).2.2) ln un nx pl f0 f1 f2) t) (va_A (WIN T v B O g ln un nx pl f0 f1 f2) sz)) 0 0 (va_A (WIN T v B O g ln un nx pl f0 f1 f2) sz) := by
  refine metCv (cc := cX2_readClerks) (maxL := 5) (by decide) rfl (Nat.le_of_ble_eq_true rfl) ?_
  intro p e s m args below meth c Q ls A hx hb hml hown hts hC hP hK hD hA hS hl hret
  have hown : s.vm.findClass RX2 = some m.cls := hown
  have hl : lv_has ls 5 [(0, .ref (v 1)), (1, .ref ((B 2) 3))] := hl
  have i2 : ∀ w ∈ wsX20, w ∈ wsX2_readClerks := by decide +kernel
  have w1 := hts (Cond.fieldLink RX2 25 "MoonComplaintWindow$Loader" "failed" "Z") (List.mem_of_getElem? (i := 1) rfl)
  have w2 := hts (Cond.fieldLink RX2 12 "MoonComplaintWindow$Loader" "input" "LMoonComplaintWindow$Input;") (List.mem_of_getElem? (i := 2) rfl)
  refine lv_iconst (v := 0) hx hb dX2_readClerks_0 (by decide) ?_
  refine lv_istore_n (lv' := [(2, .int (0)), (0, .ref (v 1)), (1, .ref ((B 2) 3))]) hx hb dX2_readClerks_1 rfl hl (by decide) rfl (fun ls hl => ?_)
  have L2 : ∀ (n9 : Nat) (K : Nat) (o1 : Nat → Nat → Int32) (g1 : CSt), (5 - K) < n9 → (K ≤ 5) → (ckL f0 ln (5 - K) K (o1, g1) = ckL f0 ln 5 0 (O 2, g)) → (gOK ln g1) → (o1 0 5 = nI K) → ∀ (H : Heap) (locs : List Loc) (ls : Array Slot), va_P D vwCl (WIN T v B (va_up O 2 o1) g1 ln un nx pl f0 f1 f2) H → va_D A (WIN T v B (va_up O 2 o1) g1 ln un nx pl f0 f1 f2) → va_S A s.heap H locs → lv_has ls 5 [(2, .int (nI K)), (0, .ref (v 1)), (1, .ref ((B 2) 3))] → W p l e ({ frames := 6, cells := 0, slots := 0, locals := 128 } : Room) s m args below meth c H locs 0 0 Q (F0 m 2 ls []) := by
    intro n9
    induction n9 with
    | zero => intro K o1 g1 hm9; exact absurd hm9 (Nat.not_lt_zero _)
    | succ n9 ih =>
      intro K o1 g1 hm9 hK9 hR hg1 hK5 H locs ls hP hD hS hl
      refine lv_iload_n hx hb dX2_readClerks_2 rfl (lv_at hl 0 rfl) ?_
      refine lv_iconst (v := 5) hx hb dX2_readClerks_3 (by decide) ?_
      refine lv_icmp_ge (tgt := 66) hx hb dX2_readClerks_4 (by decide) (fun c4 => ?_) (fun c4 => ?_)
      ·
        have c4 : 5 ≤ K := (nI_leI (a := 5) (b := K) (by omega) (by omega)).mp c4
        have hE : (WIN T v B (va_up O 2 o1) g1 ln un nx pl f0 f1 f2 : va_W) = (WIN T v B (va_up O 2 ((ckL f0 ln 5 0 (O 2, g)).2.1)) ((ckL f0 ln 5 0 (O 2, g)).2.2) ln un nx pl f0 f1 f2) := by first | (rw [ckL_done (by omega)] at hR; rw [← hR]; done) | (rw [ckL_stop hcB] at hR; rw [← hR]; done)
        exact hret _ _ _ _ dX2_readClerks_66 (by rw [← hE]; exact hP) (by rw [← hE]; exact hD) hS
      ·
        have c4 : ¬ 5 ≤ K := fun h9 => c4 ((nI_leI (a := 5) (b := K) (by omega) (by omega)).mpr h9)
        have c4 : K < 5 := by omega
        refine lv_aload_n hx hb dX2_readClerks_7 rfl (lv_at hl 1 rfl) ?_
        refine va_get (D := D) (ci := 2) (v := .int (bI g1.2.2.2.1)) (C := RX2) (T := TX2) (N := 4) hx hb hts i2 hown hK hP 1 rfl rfl 0 (by decide) w1 (fun _ h9 => h9) rfl dX2_readClerks_8 ?_
        refine lv_if_ne (tgt := 66) hx hb dX2_readClerks_11 (by decide) (fun c11 => ?_) (fun c11 => ?_)
        ·
          have c11 := bI_n0.mp c11
          have hcB : ckB f0 3 (o1, g1) = false := by simp [ckB, c11]
          have hE : (WIN T v B (va_up O 2 o1) g1 ln un nx pl f0 f1 f2 : va_W) = (WIN T v B (va_up O 2 ((ckL f0 ln 5 0 (O 2, g)).2.1)) ((ckL f0 ln 5 0 (O 2, g)).2.2) ln un nx pl f0 f1 f2) := by first | (rw [ckL_done (by omega)] at hR; rw [← hR]; done) | (rw [ckL_stop hcB] at hR; rw [← hR]; done)
          exact hret _ _ _ _ dX2_readClerks_66 (by rw [← hE]; exact hP) (by rw [← hE]; exact hD) hS
        ·
          have c11 := bI_0.mp c11
          refine lv_aload_n hx hb dX2_readClerks_14 rfl (lv_at hl 1 rfl) ?_
          refine va_get (D := D) (ci := 2) (v := .ref (v 2)) (C := RX2) (T := TX2) (N := 4) hx hb hts i2 hown hK hP 1 rfl rfl 2 (by decide) w2 (fun _ h9 => h9) rfl dX2_readClerks_15 ?_
          refine va_ldcS hx hb hown (show vk_R RX2 105 "clerk" (aK 3) s from hC.2.1 3 (by decide)) dX2_readClerks_18 ?_
          refine wcVi (As := [.ref (aK 3)]) (rest := []) ⟨hx, hb, hml, hown, hts⟩ (c_X1_isWord l D T aK aV v B (va_up O 2 o1) g1 ln un nx pl f0 f1 f2 3 hL2 hg1 (by decide) _) (cwV 1 hts gX2_readClerks_X1_isWord rfl rfl rfl (by decide +kernel) ⟨Nat.le_of_ble_eq_true rfl, Nat.le_of_ble_eq_true rfl⟩) (Foc.rfl _ _) hC hK hP hD hS hA 2 rfl rfl rfl hl.1 rfl (Nat.le_of_ble_eq_true rfl) ⟨Nat.zero_le _, Nat.zero_le _⟩ dX2_readClerks_20 (fun H locs hP hD hS => ?_)
          have hP : va_P D vwCl (WIN T v B (va_up O 2 o1) g1 ln un nx pl f0 f1 f2) H := hP
          have hD : va_D A (WIN T v B (va_up O 2 o1) g1 ln un nx pl f0 f1 f2) := hD
          refine lv_if_eq (tgt := 66) hx hb dX2_readClerks_23 (by decide) (fun c23 => ?_) (fun c23 => ?_)
          ·
            have c23 := bI_0.mp c23
            have hcB : ckB f0 3 (o1, g1) = false := by simp [ckB, c23]
            have hE : (WIN T v B (va_up O 2 o1) g1 ln un nx pl f0 f1 f2 : va_W) = (WIN T v B (va_up O 2 ((ckL f0 ln 5 0 (O 2, g)).2.1)) ((ckL f0 ln 5 0 (O 2, g)).2.2) ln un nx pl f0 f1 f2) := by first | (rw [ckL_done (by omega)] at hR; rw [← hR]; done) | (rw [ckL_stop hcB] at hR; rw [← hR]; done)
            exact hret _ _ _ _ dX2_readClerks_66 (by rw [← hE]; exact hP) (by rw [← hE]; exact hD) hS
          ·
            have c23 := bI_n0.mp c23
            have hcB : ckB f0 3 (o1, g1) = true := by simp [ckB, c11, c23]
            refine lv_aload_n hx hb dX2_readClerks_26 rfl (lv_at hl 1 rfl) ?_
            refine va_ldcS hx hb hown (show vk_R RX2 105 "clerk" (aK 3) s from hC.2.1 3 (by decide)) dX2_readClerks_27 ?_
            refine wcVv (As := [.ref (aK 3)]) (rest := []) ⟨hx, hb, hml, hown, hts⟩ (c_X2_takeWord l D T aK aV v B (va_up O 2 o1) g1 ln un nx pl f0 f1 f2 3 hL2 hg1 hby (by decide) _) (cwV 1 hts gX2_readClerks_X2_takeWord rfl rfl rfl (by decide +kernel) ⟨Nat.le_of_ble_eq_true rfl, Nat.le_of_ble_eq_true rfl⟩) (Foc.rfl _ _) hC hK hP hD hS hA 1 rfl rfl rfl hl.1 rfl (Nat.le_of_ble_eq_true rfl) ⟨Nat.zero_le _, Nat.zero_le _⟩ dX2_readClerks_29 (fun H locs hP hD hS => ?_)
            have hP : va_P D vwCl (WIN T v B (va_up O 2 o1) (takW f0 ln 3 g1) ln un nx pl f0 f1 f2) H := hP
            have hD : va_D A (WIN T v B (va_up O 2 o1) (takW f0 ln 3 g1) ln un nx pl f0 f1 f2) := hD
            refine lv_aload_n hx hb dX2_readClerks_32 rfl (lv_at hl 1 rfl) ?_
            refine lv_iconst (v := 1) hx hb dX2_readClerks_33 (by decide) ?_
            refine lv_bipush (v := 9) hx hb dX2_readClerks_34 (by decide) ?_
            refine wrVi (As := [.int (1), .int (9)]) (rest := []) ⟨hx, hb, hml, hown, hts⟩ (c_X2_takeNumber l D T v B (va_up O 2 o1) (takW f0 ln 3 g1) ln un nx pl f0 f1 f2 1 9 hL2 (takW_ok hg1) hby _) (cwV 2 hts gX2_readClerks_X2_takeNumber rfl rfl rfl (by decide +kernel) ⟨Nat.le_of_ble_eq_true rfl, Nat.le_of_ble_eq_true rfl⟩) (Foc.rfl _ _) hK hP hD hS hA 1 rfl rfl rfl hl.1 rfl (Nat.le_of_ble_eq_true rfl) ⟨Nat.zero_le _, Nat.zero_le _⟩ dX2_readClerks_36 (fun H locs hP hD hS => ?_)
            have hP : va_P D vwCl (WIN T v B (va_up O 2 o1) (takN f0 ln 1 9 (takW f0 ln 3 g1)) ln un nx pl f0 f1 f2) H := hP
            have hD : va_D A (WIN T v B (va_up O 2 o1) (takN f0 ln 1 9 (takW f0 ln 3 g1)) ln un nx pl f0 f1 f2) := hD
            refine lv_istore_n (lv' := [(3, .int (numV f0 1 9 (takW f0 ln 3 g1))), (2, .int (nI K)), (0, .ref (v 1)), (1, .ref ((B 2) 3))]) hx hb dX2_readClerks_39 rfl hl (by decide) rfl (fun ls hl => ?_)
            refine lv_aload_n hx hb dX2_readClerks_40 rfl (lv_at hl 2 rfl) ?_
            refine lv_iconst (v := 0) hx hb dX2_readClerks_41 (by decide) ?_
            refine lv_bipush (v := 99) hx hb dX2_readClerks_42 (by decide) ?_
            refine wrVi (As := [.int (0), .int (99)]) (rest := []) ⟨hx, hb, hml, hown, hts⟩ (c_X2_takeNumber l D T v B (va_up O 2 o1) (takN f0 ln 1 9 (takW f0 ln 3 g1)) ln un nx pl f0 f1 f2 0 99 hL2 (takN_ok (takW_ok hg1)) hby _) (cwV 2 hts gX2_readClerks_X2_takeNumber rfl rfl rfl (by decide +kernel) ⟨Nat.le_of_ble_eq_true rfl, Nat.le_of_ble_eq_true rfl⟩) (Foc.rfl _ _) hK hP hD hS hA 1 rfl rfl rfl hl.1 rfl (Nat.le_of_ble_eq_true rfl) ⟨Nat.zero_le _, Nat.zero_le _⟩ dX2_readClerks_44 (fun H locs hP hD hS => ?_)
            have hP : va_P D vwCl (WIN T v B (va_up O 2 o1) (takN f0 ln 0 99 (takN f0 ln 1 9 (takW f0 ln 3 g1))) ln un nx pl f0 f1 f2) H := hP
            have hD : va_D A (WIN T v B (va_up O 2 o1) (takN f0 ln 0 99 (takN f0 ln 1 9 (takW f0 ln 3 g1))) ln un nx pl f0 f1 f2) := hD
            refine lv_istore (lv' := [(4, .int (numV f0 0 99 (takN f0 ln 1 9 (takW f0 ln 3 g1)))), (3, .int (numV f0 1 9 (takW f0 ln 3 g1))), (2, .int (nI K)), (0, .ref (v 1)), (1, .ref ((B 2) 3))]) hx hb dX2_readClerks_47 hl (by decide) rfl (fun ls hl => ?_)
            refine lv_aload_n hx hb dX2_readClerks_49 rfl (lv_at hl 3 rfl) ?_
            refine wrVv (As := []) (rest := []) ⟨hx, hb, hml, hown, hts⟩ (c_X2_takeSemicolon l D T v B (va_up O 2 o1) (takN f0 ln 0 99 (takN f0 ln 1 9 (takW f0 ln 3 g1))) ln un nx pl f0 f1 f2 hL2 (takN_ok (takN_ok (takW_ok hg1))) hby _) (cwV 0 hts gX2_readClerks_X2_takeSemicolon rfl rfl rfl (by decide +kernel) ⟨Nat.le_of_ble_eq_true rfl, Nat.le_of_ble_eq_true rfl⟩) (Foc.rfl _ _) hK hP hD hS hA 1 rfl rfl rfl hl.1 rfl (Nat.le_of_ble_eq_true rfl) ⟨Nat.zero_le _, Nat.zero_le _⟩ dX2_readClerks_50 (fun H locs hP hD hS => ?_)
            have hP : va_P D vwCl (WIN T v B (va_up O 2 o1) (takS f0 ln (takN f0 ln 0 99 (takN f0 ln 1 9 (takW f0 ln 3 g1)))) ln un nx pl f0 f1 f2) H := hP
            have hD : va_D A (WIN T v B (va_up O 2 o1) (takS f0 ln (takN f0 ln 0 99 (takN f0 ln 1 9 (takW f0 ln 3 g1)))) ln un nx pl f0 f1 f2) := hD
            refine lv_aload_n hx hb dX2_readClerks_53 rfl (lv_at hl 4 rfl) ?_
            refine lv_iload_n hx hb dX2_readClerks_54 rfl (lv_at hl 1 rfl) ?_
            refine lv_iload hx hb dX2_readClerks_55 (lv_at hl 0 rfl) ?_
            refine wrVv (As := [.int (numV f0 1 9 (takW f0 ln 3 g1)), .int (numV f0 0 99 (takN f0 ln 1 9 (takW f0 ln 3 g1)))]) (rest := []) ⟨hx, hb, hml, hown, hts⟩ (c_X8_add l D T (B 2) o1 (numV f0 1 9 (takW f0 ln 3 g1)) (numV f0 0 99 (takN f0 ln 1 9 (takW f0 ln 3 g1))) K (by first | (simp only [va_up_at]; exact hK5) | exact hK5) (by omega) _) (cwV 2 hts gX2_readClerks_X8_add rfl rfl rfl (by decide +kernel) ⟨Nat.le_of_ble_eq_true rfl, Nat.le_of_ble_eq_true rfl⟩) (WIN_off (j := 2) (by decide) (staffAdd o1 K (numV f0 1 9 (takW f0 ln 3 g1)) (numV f0 0 99 (takN f0 ln 1 9 (takW f0 ln 3 g1))))) hK hP hD hS hA 3 rfl rfl rfl hl.1 rfl (Nat.le_of_ble_eq_true rfl) ⟨Nat.zero_le _, Nat.zero_le _⟩ dX2_readClerks_57 (fun H locs hP hD hS => ?_)
            rw [WIN_uu] at hP hD
            have hP : va_P D vwCl (WIN T v B (va_up O 2 (staffAdd o1 K (numV f0 1 9 (takW f0 ln 3 g1)) (numV f0 0 99 (takN f0 ln 1 9 (takW f0 ln 3 g1))))) (takS f0 ln (takN f0 ln 0 99 (takN f0 ln 1 9 (takW f0 ln 3 g1)))) ln un nx pl f0 f1 f2) H := hP
            have hD : va_D A (WIN T v B (va_up O 2 (staffAdd o1 K (numV f0 1 9 (takW f0 ln 3 g1)) (numV f0 0 99 (takN f0 ln 1 9 (takW f0 ln 3 g1))))) (takS f0 ln (takN f0 ln 0 99 (takN f0 ln 1 9 (takW f0 ln 3 g1)))) ln un nx pl f0 f1 f2) := hD
            refine lv_iinc (v := nI (K + 1)) (lv' := [(2, .int (nI (K + 1))), (4, .int (numV f0 0 99 (takN f0 ln 1 9 (takW f0 ln 3 g1)))), (3, .int (numV f0 1 9 (takW f0 ln 3 g1))), (0, .ref (v 1)), (1, .ref ((B 2) 3))]) hx hb dX2_readClerks_60 hl (k := 2) rfl (nI_1 _) (by decide) rfl (fun ls hl => ?_)
            refine lv_goto (tgt := 2) hx hb dX2_readClerks_63 (by decide) ?_
            exact ih (K + 1) (staffAdd o1 K (numV f0 1 9 (takW f0 ln 3 g1)) (numV f0 0 99 (takN f0 ln 1 9 (takW f0 ln 3 g1)))) (takS f0 ln (takN f0 ln 0 99 (takN f0 ln 1 9 (takW f0 ln 3 g1)))) (by omega) (by omega) (by rw [ckL_step c4 hcB] at hR; exact hR) (by exact ckA_ok (K := K) (s := (o1, g1)) hg1) (by rfl) _ _ _ hP hD hS (lv_sub hl [0, 3, 4] rfl)
  rw [← WIN_at] at hP hD
  exact L2 _ 0 (O 2) g (Nat.lt_succ_self _) (by omega) (by rfl) (by exact hgo) (by exact hT5) _ _ _ hP hD hS (lv_sub hl [0, 1, 2] rfl)

set_option maxHeartbeats 4000000 in
set_option maxRecDepth 100000 in
theorem c_X2_readComplaints (l : Launch) (D : va_G) (T : Nat → ClassId) (aK aV : Nat → Nat) (v : Nat → Nat) (B : Nat → Nat → Nat) (O : Nat → Nat → Nat → Int32) (g : CSt) (ln un nx pl : Nat) (f0 f1 f2 : Nat → Int32) (hL2 : ln ≤ 600) (hgo : gOK ln g) (hby : ∀ i, i < ln → ¬ f0 i = -1) (hT7 : O 2 0 7 = nI 0) (sz : Nat) : Met l yX2_readComplaints wsX2_readComplaints ({ frames := 7, cells := 0, slots := 0, locals := 150 } : Room) (va_Pc [.ref (v 1), .ref ((B 2) 6)] (PSc D T aK aV (WIN T v B O g ln un nx pl f0 f1 f2) sz)) (va_Qv (fun (_ : Unit) => True) (fun _ t => QS D T (va_A (WIN T v B O g ln un nx pl f0 f1 f2) sz) (WIN T v B (va_up O 2 ((coL f0 ln 24 0 (O 2, g)).2.1)) ((coL f0 ln 24 0 (O 2, g)).2.2) ln un nx pl f0 f1 f2) t) (va_A (WIN T v B O g ln un nx pl f0 f1 f2) sz)) 0 0 (va_A (WIN T v B O g ln un nx pl f0 f1 f2) sz) := by
  refine metCv (cc := cX2_readComplaints) (maxL := 6) (by decide) rfl (Nat.le_of_ble_eq_true rfl) ?_
  intro p e s m args below meth c Q ls A hx hb hml hown hts hC hP hK hD hA hS hl hret
  have hown : s.vm.findClass RX2 = some m.cls := hown
  have hl : lv_has ls 6 [(0, .ref (v 1)), (1, .ref ((B 2) 6))] := hl
  have i2 : ∀ w ∈ wsX20, w ∈ wsX2_readComplaints := by decide +kernel
  have w1 := hts (Cond.fieldLink RX2 25 "MoonComplaintWindow$Loader" "failed" "Z") (List.mem_of_getElem? (i := 1) rfl)
  have w2 := hts (Cond.fieldLink RX2 12 "MoonComplaintWindow$Loader" "input" "LMoonComplaintWindow$Input;") (List.mem_of_getElem? (i := 2) rfl)
  refine lv_iconst (v := 0) hx hb dX2_readComplaints_0 (by decide) ?_
  refine lv_istore_n (lv' := [(2, .int (0)), (0, .ref (v 1)), (1, .ref ((B 2) 6))]) hx hb dX2_readComplaints_1 rfl hl (by decide) rfl (fun ls hl => ?_)
  have L2 : ∀ (n9 : Nat) (N : Nat) (o1 : Nat → Nat → Int32) (g1 : CSt), (24 - N) < n9 → (N ≤ 24) → (coL f0 ln (24 - N) N (o1, g1) = coL f0 ln 24 0 (O 2, g)) → (gOK ln g1) → (o1 0 7 = nI N) → ∀ (H : Heap) (locs : List Loc) (ls : Array Slot), va_P D vwCl (WIN T v B (va_up O 2 o1) g1 ln un nx pl f0 f1 f2) H → va_D A (WIN T v B (va_up O 2 o1) g1 ln un nx pl f0 f1 f2) → va_S A s.heap H locs → lv_has ls 6 [(2, .int (nI N)), (0, .ref (v 1)), (1, .ref ((B 2) 6))] → W p l e ({ frames := 7, cells := 0, slots := 0, locals := 150 } : Room) s m args below meth c H locs 0 0 Q (F0 m 2 ls []) := by
    intro n9
    induction n9 with
    | zero => intro N o1 g1 hm9; exact absurd hm9 (Nat.not_lt_zero _)
    | succ n9 ih =>
      intro N o1 g1 hm9 hN9 hR hg1 hN7 H locs ls hP hD hS hl
      refine lv_iload_n hx hb dX2_readComplaints_2 rfl (lv_at hl 0 rfl) ?_
      refine lv_bipush (v := 24) hx hb dX2_readComplaints_3 (by decide) ?_
      refine lv_icmp_ge (tgt := 78) hx hb dX2_readComplaints_5 (by decide) (fun c5 => ?_) (fun c5 => ?_)
      ·
        have c5 : 24 ≤ N := (nI_leI (a := 24) (b := N) (by omega) (by omega)).mp c5
        have hE : (WIN T v B (va_up O 2 o1) g1 ln un nx pl f0 f1 f2 : va_W) = (WIN T v B (va_up O 2 ((coL f0 ln 24 0 (O 2, g)).2.1)) ((coL f0 ln 24 0 (O 2, g)).2.2) ln un nx pl f0 f1 f2) := by first | (rw [coL_done (by omega)] at hR; rw [← hR]; done) | (rw [coL_stop hcB] at hR; rw [← hR]; done)
        exact hret _ _ _ _ dX2_readComplaints_78 (by rw [← hE]; exact hP) (by rw [← hE]; exact hD) hS
      ·
        have c5 : ¬ 24 ≤ N := fun h9 => c5 ((nI_leI (a := 24) (b := N) (by omega) (by omega)).mpr h9)
        have c5 : N < 24 := by omega
        refine lv_aload_n hx hb dX2_readComplaints_8 rfl (lv_at hl 1 rfl) ?_
        refine va_get (D := D) (ci := 2) (v := .int (bI g1.2.2.2.1)) (C := RX2) (T := TX2) (N := 4) hx hb hts i2 hown hK hP 1 rfl rfl 0 (by decide) w1 (fun _ h9 => h9) rfl dX2_readComplaints_9 ?_
        refine lv_if_ne (tgt := 78) hx hb dX2_readComplaints_12 (by decide) (fun c12 => ?_) (fun c12 => ?_)
        ·
          have c12 := bI_n0.mp c12
          have hcB : ckB f0 4 (o1, g1) = false := by simp [ckB, c12]
          have hE : (WIN T v B (va_up O 2 o1) g1 ln un nx pl f0 f1 f2 : va_W) = (WIN T v B (va_up O 2 ((coL f0 ln 24 0 (O 2, g)).2.1)) ((coL f0 ln 24 0 (O 2, g)).2.2) ln un nx pl f0 f1 f2) := by first | (rw [coL_done (by omega)] at hR; rw [← hR]; done) | (rw [coL_stop hcB] at hR; rw [← hR]; done)
          exact hret _ _ _ _ dX2_readComplaints_78 (by rw [← hE]; exact hP) (by rw [← hE]; exact hD) hS
        ·
          have c12 := bI_0.mp c12
          refine lv_aload_n hx hb dX2_readComplaints_15 rfl (lv_at hl 1 rfl) ?_
          refine va_get (D := D) (ci := 2) (v := .ref (v 2)) (C := RX2) (T := TX2) (N := 4) hx hb hts i2 hown hK hP 1 rfl rfl 2 (by decide) w2 (fun _ h9 => h9) rfl dX2_readComplaints_16 ?_
          refine va_ldcS hx hb hown (show vk_R RX2 117 "complaint" (aK 4) s from hC.2.1 4 (by decide)) dX2_readComplaints_19 ?_
          refine wcVi (As := [.ref (aK 4)]) (rest := []) ⟨hx, hb, hml, hown, hts⟩ (c_X1_isWord l D T aK aV v B (va_up O 2 o1) g1 ln un nx pl f0 f1 f2 4 hL2 hg1 (by decide) _) (cwV 1 hts gX2_readComplaints_X1_isWord rfl rfl rfl (by decide +kernel) ⟨Nat.le_of_ble_eq_true rfl, Nat.le_of_ble_eq_true rfl⟩) (Foc.rfl _ _) hC hK hP hD hS hA 2 rfl rfl rfl hl.1 rfl (Nat.le_of_ble_eq_true rfl) ⟨Nat.zero_le _, Nat.zero_le _⟩ dX2_readComplaints_21 (fun H locs hP hD hS => ?_)
          have hP : va_P D vwCl (WIN T v B (va_up O 2 o1) g1 ln un nx pl f0 f1 f2) H := hP
          have hD : va_D A (WIN T v B (va_up O 2 o1) g1 ln un nx pl f0 f1 f2) := hD
          refine lv_if_eq (tgt := 78) hx hb dX2_readComplaints_24 (by decide) (fun c24 => ?_) (fun c24 => ?_)
          ·
            have c24 := bI_0.mp c24
            have hcB : ckB f0 4 (o1, g1) = false := by simp [ckB, c24]
            have hE : (WIN T v B (va_up O 2 o1) g1 ln un nx pl f0 f1 f2 : va_W) = (WIN T v B (va_up O 2 ((coL f0 ln 24 0 (O 2, g)).2.1)) ((coL f0 ln 24 0 (O 2, g)).2.2) ln un nx pl f0 f1 f2) := by first | (rw [coL_done (by omega)] at hR; rw [← hR]; done) | (rw [coL_stop hcB] at hR; rw [← hR]; done)
            exact hret _ _ _ _ dX2_readComplaints_78 (by rw [← hE]; exact hP) (by rw [← hE]; exact hD) hS
          ·
            have c24 := bI_n0.mp c24
            have hcB : ckB f0 4 (o1, g1) = true := by simp [ckB, c12, c24]
            refine lv_aload_n hx hb dX2_readComplaints_27 rfl (lv_at hl 1 rfl) ?_
            refine va_ldcS hx hb hown (show vk_R RX2 117 "complaint" (aK 4) s from hC.2.1 4 (by decide)) dX2_readComplaints_28 ?_
            refine wcVv (As := [.ref (aK 4)]) (rest := []) ⟨hx, hb, hml, hown, hts⟩ (c_X2_takeWord l D T aK aV v B (va_up O 2 o1) g1 ln un nx pl f0 f1 f2 4 hL2 hg1 hby (by decide) _) (cwV 1 hts gX2_readComplaints_X2_takeWord rfl rfl rfl (by decide +kernel) ⟨Nat.le_of_ble_eq_true rfl, Nat.le_of_ble_eq_true rfl⟩) (Foc.rfl _ _) hC hK hP hD hS hA 1 rfl rfl rfl hl.1 rfl (Nat.le_of_ble_eq_true rfl) ⟨Nat.zero_le _, Nat.zero_le _⟩ dX2_readComplaints_30 (fun H locs hP hD hS => ?_)
            have hP : va_P D vwCl (WIN T v B (va_up O 2 o1) (takW f0 ln 4 g1) ln un nx pl f0 f1 f2) H := hP
            have hD : va_D A (WIN T v B (va_up O 2 o1) (takW f0 ln 4 g1) ln un nx pl f0 f1 f2) := hD
            refine lv_aload_n hx hb dX2_readComplaints_33 rfl (lv_at hl 1 rfl) ?_
            refine lv_iconst (v := 0) hx hb dX2_readComplaints_34 (by decide) ?_
            refine lv_bipush (v := 99) hx hb dX2_readComplaints_35 (by decide) ?_
            refine wrVi (As := [.int (0), .int (99)]) (rest := []) ⟨hx, hb, hml, hown, hts⟩ (c_X2_takeNumber l D T v B (va_up O 2 o1) (takW f0 ln 4 g1) ln un nx pl f0 f1 f2 0 99 hL2 (takW_ok hg1) hby _) (cwV 2 hts gX2_readComplaints_X2_takeNumber rfl rfl rfl (by decide +kernel) ⟨Nat.le_of_ble_eq_true rfl, Nat.le_of_ble_eq_true rfl⟩) (Foc.rfl _ _) hK hP hD hS hA 1 rfl rfl rfl hl.1 rfl (Nat.le_of_ble_eq_true rfl) ⟨Nat.zero_le _, Nat.zero_le _⟩ dX2_readComplaints_37 (fun H locs hP hD hS => ?_)
            have hP : va_P D vwCl (WIN T v B (va_up O 2 o1) (takN f0 ln 0 99 (takW f0 ln 4 g1)) ln un nx pl f0 f1 f2) H := hP
            have hD : va_D A (WIN T v B (va_up O 2 o1) (takN f0 ln 0 99 (takW f0 ln 4 g1)) ln un nx pl f0 f1 f2) := hD
            refine lv_istore_n (lv' := [(3, .int (numV f0 0 99 (takW f0 ln 4 g1))), (2, .int (nI N)), (0, .ref (v 1)), (1, .ref ((B 2) 6))]) hx hb dX2_readComplaints_40 rfl hl (by decide) rfl (fun ls hl => ?_)
            refine lv_aload_n hx hb dX2_readComplaints_41 rfl (lv_at hl 2 rfl) ?_
            refine lv_aload_n hx hb dX2_readComplaints_42 rfl (lv_at hl 3 rfl) ?_
            refine lv_iload_n hx hb dX2_readComplaints_43 rfl (lv_at hl 0 rfl) ?_
            refine wcVi (As := [.ref ((B 2) 6), .int (numV f0 0 99 (takW f0 ln 4 g1))]) (rest := []) ⟨hx, hb, hml, hown, hts⟩ (c_X2_takeSort l D T aK aV v B (va_up O 2 o1) (takN f0 ln 0 99 (takW f0 ln 4 g1)) ln un nx pl f0 f1 f2 (numV f0 0 99 (takW f0 ln 4 g1)) N hL2 (takN_ok (takW_ok hg1)) hby (by first | (simp only [va_up_at]; exact hN7) | exact hN7) (by omega) _) (cwV 2 hts gX2_readComplaints_X2_takeSort rfl rfl rfl (by decide +kernel) ⟨Nat.le_of_ble_eq_true rfl, Nat.le_of_ble_eq_true rfl⟩) (Foc.rfl _ _) hC hK hP hD hS hA 1 rfl rfl rfl hl.1 rfl (Nat.le_of_ble_eq_true rfl) ⟨Nat.zero_le _, Nat.zero_le _⟩ dX2_readComplaints_44 (fun H locs hP hD hS => ?_)
            have hP : va_P D vwCl (WIN T v B (va_up O 2 o1) (takT f0 ln (o1) (numV f0 0 99 (takW f0 ln 4 g1)) N (takN f0 ln 0 99 (takW f0 ln 4 g1))) ln un nx pl f0 f1 f2) H := hP
            have hD : va_D A (WIN T v B (va_up O 2 o1) (takT f0 ln (o1) (numV f0 0 99 (takW f0 ln 4 g1)) N (takN f0 ln 0 99 (takW f0 ln 4 g1))) ln un nx pl f0 f1 f2) := hD
            refine lv_istore (lv' := [(4, .int (sortV f0 ((va_up O 2 o1) 2) (numV f0 0 99 (takW f0 ln 4 g1)) N (takN f0 ln 0 99 (takW f0 ln 4 g1)))), (3, .int (numV f0 0 99 (takW f0 ln 4 g1))), (2, .int (nI N)), (0, .ref (v 1)), (1, .ref ((B 2) 6))]) hx hb dX2_readComplaints_47 hl (by decide) rfl (fun ls hl => ?_)
            refine lv_aload_n hx hb dX2_readComplaints_49 rfl (lv_at hl 3 rfl) ?_
            refine lv_iconst (v := 1) hx hb dX2_readComplaints_50 (by decide) ?_
            refine lv_bipush (v := 9) hx hb dX2_readComplaints_51 (by decide) ?_
            refine wrVi (As := [.int (1), .int (9)]) (rest := []) ⟨hx, hb, hml, hown, hts⟩ (c_X2_takeNumber l D T v B (va_up O 2 o1) (takT f0 ln (o1) (numV f0 0 99 (takW f0 ln 4 g1)) N (takN f0 ln 0 99 (takW f0 ln 4 g1))) ln un nx pl f0 f1 f2 1 9 hL2 (takT_ok (takN_ok (takW_ok hg1))) hby _) (cwV 2 hts gX2_readComplaints_X2_takeNumber rfl rfl rfl (by decide +kernel) ⟨Nat.le_of_ble_eq_true rfl, Nat.le_of_ble_eq_true rfl⟩) (Foc.rfl _ _) hK hP hD hS hA 1 rfl rfl rfl hl.1 rfl (Nat.le_of_ble_eq_true rfl) ⟨Nat.zero_le _, Nat.zero_le _⟩ dX2_readComplaints_53 (fun H locs hP hD hS => ?_)
            have hP : va_P D vwCl (WIN T v B (va_up O 2 o1) (takN f0 ln 1 9 (takT f0 ln (o1) (numV f0 0 99 (takW f0 ln 4 g1)) N (takN f0 ln 0 99 (takW f0 ln 4 g1)))) ln un nx pl f0 f1 f2) H := hP
            have hD : va_D A (WIN T v B (va_up O 2 o1) (takN f0 ln 1 9 (takT f0 ln (o1) (numV f0 0 99 (takW f0 ln 4 g1)) N (takN f0 ln 0 99 (takW f0 ln 4 g1)))) ln un nx pl f0 f1 f2) := hD
            refine lv_istore (lv' := [(5, .int (numV f0 1 9 (takT f0 ln (o1) (numV f0 0 99 (takW f0 ln 4 g1)) N (takN f0 ln 0 99 (takW f0 ln 4 g1))))), (4, .int (sortV f0 ((va_up O 2 o1) 2) (numV f0 0 99 (takW f0 ln 4 g1)) N (takN f0 ln 0 99 (takW f0 ln 4 g1)))), (3, .int (numV f0 0 99 (takW f0 ln 4 g1))), (2, .int (nI N)), (0, .ref (v 1)), (1, .ref ((B 2) 6))]) hx hb dX2_readComplaints_56 hl (by decide) rfl (fun ls hl => ?_)
            refine lv_aload_n hx hb dX2_readComplaints_58 rfl (lv_at hl 4 rfl) ?_
            refine wrVv (As := []) (rest := []) ⟨hx, hb, hml, hown, hts⟩ (c_X2_takeSemicolon l D T v B (va_up O 2 o1) (takN f0 ln 1 9 (takT f0 ln (o1) (numV f0 0 99 (takW f0 ln 4 g1)) N (takN f0 ln 0 99 (takW f0 ln 4 g1)))) ln un nx pl f0 f1 f2 hL2 (takN_ok (takT_ok (takN_ok (takW_ok hg1)))) hby _) (cwV 0 hts gX2_readComplaints_X2_takeSemicolon rfl rfl rfl (by decide +kernel) ⟨Nat.le_of_ble_eq_true rfl, Nat.le_of_ble_eq_true rfl⟩) (Foc.rfl _ _) hK hP hD hS hA 1 rfl rfl rfl hl.1 rfl (Nat.le_of_ble_eq_true rfl) ⟨Nat.zero_le _, Nat.zero_le _⟩ dX2_readComplaints_59 (fun H locs hP hD hS => ?_)
            have hP : va_P D vwCl (WIN T v B (va_up O 2 o1) (takS f0 ln (takN f0 ln 1 9 (takT f0 ln (o1) (numV f0 0 99 (takW f0 ln 4 g1)) N (takN f0 ln 0 99 (takW f0 ln 4 g1))))) ln un nx pl f0 f1 f2) H := hP
            have hD : va_D A (WIN T v B (va_up O 2 o1) (takS f0 ln (takN f0 ln 1 9 (takT f0 ln (o1) (numV f0 0 99 (takW f0 ln 4 g1)) N (takN f0 ln 0 99 (takW f0 ln 4 g1))))) ln un nx pl f0 f1 f2) := hD
            refine lv_aload_n hx hb dX2_readComplaints_62 rfl (lv_at hl 5 rfl) ?_
            refine lv_iload_n hx hb dX2_readComplaints_63 rfl (lv_at hl 2 rfl) ?_
            refine lv_iload hx hb dX2_readComplaints_64 (lv_at hl 1 rfl) ?_
            refine lv_iload hx hb dX2_readComplaints_66 (lv_at hl 0 rfl) ?_
            refine lv_iconst (v := 0) hx hb dX2_readComplaints_68 (by decide) ?_
            refine wrVv (As := [.int (numV f0 0 99 (takW f0 ln 4 g1)), .int (sortV f0 ((va_up O 2 o1) 2) (numV f0 0 99 (takW f0 ln 4 g1)) N (takN f0 ln 0 99 (takW f0 ln 4 g1))), .int (numV f0 1 9 (takT f0 ln (o1) (numV f0 0 99 (takW f0 ln 4 g1)) N (takN f0 ln 0 99 (takW f0 ln 4 g1)))), .int (0)]) (rest := []) ⟨hx, hb, hml, hown, hts⟩ (c_X5_add l D T (B 2) o1 (numV f0 0 99 (takW f0 ln 4 g1)) (sortV f0 ((va_up O 2 o1) 2) (numV f0 0 99 (takW f0 ln 4 g1)) N (takN f0 ln 0 99 (takW f0 ln 4 g1))) (numV f0 1 9 (takT f0 ln (o1) (numV f0 0 99 (takW f0 ln 4 g1)) N (takN f0 ln 0 99 (takW f0 ln 4 g1)))) 0 N (by first | (simp only [va_up_at]; exact hN7) | exact hN7) (by omega) _) (cwV 4 hts gX2_readComplaints_X5_add rfl rfl rfl (by decide +kernel) ⟨Nat.le_of_ble_eq_true rfl, Nat.le_of_ble_eq_true rfl⟩) (WIN_off (j := 2) (by decide) (pileAdd o1 N (numV f0 0 99 (takW f0 ln 4 g1)) (sortV f0 ((va_up O 2 o1) 2) (numV f0 0 99 (takW f0 ln 4 g1)) N (takN f0 ln 0 99 (takW f0 ln 4 g1))) (numV f0 1 9 (takT f0 ln (o1) (numV f0 0 99 (takW f0 ln 4 g1)) N (takN f0 ln 0 99 (takW f0 ln 4 g1)))) 0)) hK hP hD hS hA 6 rfl rfl rfl hl.1 rfl (Nat.le_of_ble_eq_true rfl) ⟨Nat.zero_le _, Nat.zero_le _⟩ dX2_readComplaints_69 (fun H locs hP hD hS => ?_)
            rw [WIN_uu] at hP hD
            have hP : va_P D vwCl (WIN T v B (va_up O 2 (pileAdd o1 N (numV f0 0 99 (takW f0 ln 4 g1)) (sortV f0 ((va_up O 2 o1) 2) (numV f0 0 99 (takW f0 ln 4 g1)) N (takN f0 ln 0 99 (takW f0 ln 4 g1))) (numV f0 1 9 (takT f0 ln (o1) (numV f0 0 99 (takW f0 ln 4 g1)) N (takN f0 ln 0 99 (takW f0 ln 4 g1)))) 0)) (takS f0 ln (takN f0 ln 1 9 (takT f0 ln (o1) (numV f0 0 99 (takW f0 ln 4 g1)) N (takN f0 ln 0 99 (takW f0 ln 4 g1))))) ln un nx pl f0 f1 f2) H := hP
            have hD : va_D A (WIN T v B (va_up O 2 (pileAdd o1 N (numV f0 0 99 (takW f0 ln 4 g1)) (sortV f0 ((va_up O 2 o1) 2) (numV f0 0 99 (takW f0 ln 4 g1)) N (takN f0 ln 0 99 (takW f0 ln 4 g1))) (numV f0 1 9 (takT f0 ln (o1) (numV f0 0 99 (takW f0 ln 4 g1)) N (takN f0 ln 0 99 (takW f0 ln 4 g1)))) 0)) (takS f0 ln (takN f0 ln 1 9 (takT f0 ln (o1) (numV f0 0 99 (takW f0 ln 4 g1)) N (takN f0 ln 0 99 (takW f0 ln 4 g1))))) ln un nx pl f0 f1 f2) := hD
            refine lv_iinc (v := nI (N + 1)) (lv' := [(2, .int (nI (N + 1))), (5, .int (numV f0 1 9 (takT f0 ln (o1) (numV f0 0 99 (takW f0 ln 4 g1)) N (takN f0 ln 0 99 (takW f0 ln 4 g1))))), (4, .int (sortV f0 ((va_up O 2 o1) 2) (numV f0 0 99 (takW f0 ln 4 g1)) N (takN f0 ln 0 99 (takW f0 ln 4 g1)))), (3, .int (numV f0 0 99 (takW f0 ln 4 g1))), (0, .ref (v 1)), (1, .ref ((B 2) 6))]) hx hb dX2_readComplaints_72 hl (k := 3) rfl (nI_1 _) (by decide) rfl (fun ls hl => ?_)
            refine lv_goto (tgt := 2) hx hb dX2_readComplaints_75 (by decide) ?_
            exact ih (N + 1) (pileAdd o1 N (numV f0 0 99 (takW f0 ln 4 g1)) (sortV f0 ((va_up O 2 o1) 2) (numV f0 0 99 (takW f0 ln 4 g1)) N (takN f0 ln 0 99 (takW f0 ln 4 g1))) (numV f0 1 9 (takT f0 ln (o1) (numV f0 0 99 (takW f0 ln 4 g1)) N (takN f0 ln 0 99 (takW f0 ln 4 g1)))) 0) (takS f0 ln (takN f0 ln 1 9 (takT f0 ln (o1) (numV f0 0 99 (takW f0 ln 4 g1)) N (takN f0 ln 0 99 (takW f0 ln 4 g1))))) (by omega) (by omega) (by rw [coL_step c5 hcB] at hR; exact hR) (by exact coA_ok (s := (o1, g1)) hg1) (by rfl) _ _ _ hP hD hS (lv_sub hl [0, 4, 5] rfl)
  rw [← WIN_at] at hP hD
  exact L2 _ 0 (O 2) g (Nat.lt_succ_self _) (by omega) (by rfl) (by exact hgo) (by exact hT7) _ _ _ hP hD hS (lv_sub hl [0, 1, 2] rfl)
