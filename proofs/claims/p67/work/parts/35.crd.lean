set_option maxHeartbeats 4000000 in
set_option maxRecDepth 100000 in
theorem c_X2_read (l : Launch) (D : va_G) (T : Nat → ClassId) (aK aV : Nat → Nat) (v : Nat → Nat) (B : Nat → Nat → Nat) (O : Nat → Nat → Nat → Int32) (g : CSt) (ln un nx pl : Nat) (f0 f1 f2 : Nat → Int32) (hL2 : ln ≤ 600) (hby : ∀ i, i < ln → ¬ f0 i = -1) (sz : Nat) : Met l yX2_read wsX2_read ({ frames := 8, cells := 0, slots := 0, locals := 175 } : Room) (va_Pc [.ref (v 1)] (PSc D T aK aV (WIN T v B O g ln un nx pl f0 f1 f2) sz)) (va_Qv (fun (_ : Unit) => True) (fun _ t => QS D T (va_A (WIN T v B O g ln un nx pl f0 f1 f2) sz) (WIN T v B (va_up O 2 ((rd4 f0 ln (O 2, g)).2.1)) (rd5 f0 ln (O 2, g)) 0 un nx pl f0 f1 f2) t) (va_A (WIN T v B O g ln un nx pl f0 f1 f2) sz)) 0 0 (va_A (WIN T v B O g ln un nx pl f0 f1 f2) sz) := by
  refine metCv (cc := cX2_read) (maxL := 1) (by decide) rfl (Nat.le_of_ble_eq_true rfl) ?_
  intro p e s m args below meth c Q ls A hx hb hml hown hts hC hP hK hD hA hS hl hret
  have hown : s.vm.findClass RX2 = some m.cls := hown
  have hl : lv_has ls 1 [(0, .ref (v 1))] := hl
  have i1 : ∀ w ∈ wsX10, w ∈ wsX2_read := by decide +kernel
  have i2 : ∀ w ∈ wsX20, w ∈ wsX2_read := by decide +kernel
  have i3 : ∀ w ∈ wsX30, w ∈ wsX2_read := by decide +kernel
  have w1 := hts (Cond.fieldLink RX2 25 "MoonComplaintWindow$Loader" "failed" "Z") (List.mem_of_getElem? (i := 1) rfl)
  have w2 := hts (Cond.fieldLink RX2 29 "MoonComplaintWindow$Loader" "errorOffset" "I") (List.mem_of_getElem? (i := 2) rfl)
  have w3 := hts (Cond.fieldLink RX2 12 "MoonComplaintWindow$Loader" "input" "LMoonComplaintWindow$Input;") (List.mem_of_getElem? (i := 3) rfl)
  have w4 := hts (Cond.fieldLink RX2 21 "MoonComplaintWindow$Loader" "draft" "LMoonComplaintWindow$Office;") (List.mem_of_getElem? (i := 4) rfl)
  have w5 := hts (Cond.fieldLink RX2 39 "MoonComplaintWindow$Office" "sky" "LMoonComplaintWindow$Sky;") (List.mem_of_getElem? (i := 5) rfl)
  have w6 := hts (Cond.fieldLink RX2 50 "MoonComplaintWindow$Office" "staff" "LMoonComplaintWindow$Staff;") (List.mem_of_getElem? (i := 6) rfl)
  have w7 := hts (Cond.fieldLink RX2 58 "MoonComplaintWindow$Office" "pile" "LMoonComplaintWindow$Pile;") (List.mem_of_getElem? (i := 7) rfl)
  have w8 := hts (Cond.fieldLink RX2 66 "MoonComplaintWindow$Input" "kind" "I") (List.mem_of_getElem? (i := 8) rfl)
  have w9 := hts (Cond.fieldLink RX2 72 "MoonComplaintWindow$Input" "length" "I") (List.mem_of_getElem? (i := 9) rfl)
  refine lv_aload_n hx hb dX2_read_0 rfl (lv_at hl 0 rfl) ?_
  refine lv_iconst (v := 0) hx hb dX2_read_1 (by decide) ?_
  refine va_put (D := D) (ci := 2) (v := .int (0)) (ty := .boolean) (C := RX2) (T := TX2) (N := 4) hx hb hts i2 tyX2 tyX2_ok nmX2 hown hK hP hD hS 1 rfl rfl 0 (by decide) w1 (fun _ h9 => h9) rfl (by decide +kernel) rfl rfl (Nat.le_of_ble_eq_true rfl) dX2_read_2 (fun H locs hP hD hS => ?_)
  have hP : va_P D vwCl (WIN T v B O ((g.1, g.2.1, g.2.2.1, false, g.2.2.2.2)) ln un nx pl f0 f1 f2) H := hP
  have hD : va_D A (WIN T v B O ((g.1, g.2.1, g.2.2.1, false, g.2.2.2.2)) ln un nx pl f0 f1 f2) := hD
  refine lv_aload_n hx hb dX2_read_5 rfl (lv_at hl 0 rfl) ?_
  refine lv_iconst (v := -1) hx hb dX2_read_6 (by decide) ?_
  refine va_put (D := D) (ci := 2) (v := .int (-1)) (ty := .int) (C := RX2) (T := TX2) (N := 4) hx hb hts i2 tyX2 tyX2_ok nmX2 hown hK hP hD hS 1 rfl rfl 1 (by decide) w2 (fun _ h9 => h9) rfl (by decide +kernel) rfl rfl (Nat.le_of_ble_eq_true rfl) dX2_read_7 (fun H locs hP hD hS => ?_)
  have hP : va_P D vwCl (WIN T v B O ((g.1, g.2.1, g.2.2.1, false, -1)) ln un nx pl f0 f1 f2) H := hP
  have hD : va_D A (WIN T v B O ((g.1, g.2.1, g.2.2.1, false, -1)) ln un nx pl f0 f1 f2) := hD
  refine lv_aload_n hx hb dX2_read_10 rfl (lv_at hl 0 rfl) ?_
  refine va_get (D := D) (ci := 2) (v := .ref (v 2)) (C := RX2) (T := TX2) (N := 4) hx hb hts i2 hown hK hP 1 rfl rfl 2 (by decide) w3 (fun _ h9 => h9) rfl dX2_read_11 ?_
  refine wrVv (As := []) (rest := []) ⟨hx, hb, hml, hown, hts⟩ (c_X1_rewind l D T v B O ((g.1, g.2.1, g.2.2.1, false, -1)) ln un nx pl f0 f1 f2 hL2 hby _) (cwV 0 hts gX2_read_X1_rewind rfl rfl rfl (by decide +kernel) ⟨Nat.le_of_ble_eq_true rfl, Nat.le_of_ble_eq_true rfl⟩) (Foc.rfl _ _) hK hP hD hS hA 2 rfl rfl rfl hl.1 rfl (Nat.le_of_ble_eq_true rfl) ⟨Nat.zero_le _, Nat.zero_le _⟩ dX2_read_14 (fun H locs hP hD hS => ?_)
  have hP : va_P D vwCl (WIN T v B O (rewC f0 ln ((g.1, g.2.1, g.2.2.1, false, -1))) ln un nx pl f0 f1 f2) H := hP
  have hD : va_D A (WIN T v B O (rewC f0 ln ((g.1, g.2.1, g.2.2.1, false, -1))) ln un nx pl f0 f1 f2) := hD
  have hP : va_P D vwCl (WIN T v B O (rd0 f0 ln g) ln un nx pl f0 f1 f2) H := hP
  have hD : va_D A (WIN T v B O (rd0 f0 ln g) ln un nx pl f0 f1 f2) := hD
  refine lv_aload_n hx hb dX2_read_17 rfl (lv_at hl 0 rfl) ?_
  refine va_get (D := D) (ci := 2) (v := .ref ((B 2) 0)) (C := RX2) (T := TX2) (N := 4) hx hb hts i2 hown hK hP 1 rfl rfl 3 (by decide) w4 (fun _ h9 => h9) rfl dX2_read_18 ?_
  refine wrVv (As := []) (rest := []) ⟨hx, hb, hml, hown, hts⟩ (c_X3_clear l D T (B 2) (O 2) _) (cwV 0 hts gX2_read_X3_clear rfl rfl rfl (by decide +kernel) ⟨Nat.le_of_ble_eq_true rfl, Nat.le_of_ble_eq_true rfl⟩) (WIN_off (j := 2) (by decide) (clearC (O 2))) hK hP hD hS hA 0 rfl rfl rfl hl.1 rfl (Nat.le_of_ble_eq_true rfl) ⟨Nat.zero_le _, Nat.zero_le _⟩ dX2_read_21 (fun H locs hP hD hS => ?_)
  have hP : va_P D vwCl (WIN T v B (va_up O 2 (clearC (O 2))) (rd0 f0 ln g) ln un nx pl f0 f1 f2) H := hP
  have hD : va_D A (WIN T v B (va_up O 2 (clearC (O 2))) (rd0 f0 ln g) ln un nx pl f0 f1 f2) := hD
  refine lv_aload_n hx hb dX2_read_24 rfl (lv_at hl 0 rfl) ?_
  refine lv_aload_n hx hb dX2_read_25 rfl (lv_at hl 0 rfl) ?_
  refine va_get (D := D) (ci := 2) (v := .ref ((B 2) 0)) (C := RX2) (T := TX2) (N := 4) hx hb hts i2 hown hK hP 1 rfl rfl 3 (by decide) w4 (fun _ h9 => h9) rfl dX2_read_26 ?_
  refine va_get (D := D) (ci := 3) (v := .ref ((B 2) 1)) (C := RX3) (T := TX3) (N := 4) hx hb hts i3 hown hK hP (14 * 2 + 0 + 11) (WIN_get (by decide) (by decide) rfl) rfl 1 (by decide) w5 (fun _ h9 => h9) rfl dX2_read_29 ?_
  refine wcVv (As := [.ref ((B 2) 1)]) (rest := []) ⟨hx, hb, hml, hown, hts⟩ (c_X2_readMoon l D T aK aV v B (va_up O 2 (clearC (O 2))) (rd0 f0 ln g) ln un nx pl f0 f1 f2 hL2 (rd0_ok f0 ln g) hby _) (cwV 1 hts gX2_read_X2_readMoon rfl rfl rfl (by decide +kernel) ⟨Nat.le_of_ble_eq_true rfl, Nat.le_of_ble_eq_true rfl⟩) (Foc.rfl _ _) hC hK hP hD hS hA 1 rfl rfl rfl hl.1 rfl (Nat.le_of_ble_eq_true rfl) ⟨Nat.zero_le _, Nat.zero_le _⟩ dX2_read_32 (fun H locs hP hD hS => ?_)
  rw [WIN_uu, va_up_at, rd1_is] at hP hD
  have hP : va_P D vwCl (WIN T v B (va_up O 2 ((moonC f0 ln ((clearC (O 2)), (rd0 f0 ln g))).1)) ((moonC f0 ln ((clearC (O 2)), (rd0 f0 ln g))).2) ln un nx pl f0 f1 f2) H := hP
  have hD : va_D A (WIN T v B (va_up O 2 ((moonC f0 ln ((clearC (O 2)), (rd0 f0 ln g))).1)) ((moonC f0 ln ((clearC (O 2)), (rd0 f0 ln g))).2) ln un nx pl f0 f1 f2) := hD
  have hP : va_P D vwCl (WIN T v B (va_up O 2 ((rd1 f0 ln (O 2, g)).1)) ((rd1 f0 ln (O 2, g)).2) ln un nx pl f0 f1 f2) H := hP
  have hD : va_D A (WIN T v B (va_up O 2 ((rd1 f0 ln (O 2, g)).1)) ((rd1 f0 ln (O 2, g)).2) ln un nx pl f0 f1 f2) := hD
  refine lv_aload_n hx hb dX2_read_35 rfl (lv_at hl 0 rfl) ?_
  refine lv_aload_n hx hb dX2_read_36 rfl (lv_at hl 0 rfl) ?_
  refine va_get (D := D) (ci := 2) (v := .ref ((B 2) 0)) (C := RX2) (T := TX2) (N := 4) hx hb hts i2 hown hK hP 1 rfl rfl 3 (by decide) w4 (fun _ h9 => h9) rfl dX2_read_37 ?_
  refine va_get (D := D) (ci := 3) (v := .ref ((B 2) 1)) (C := RX3) (T := TX3) (N := 4) hx hb hts i3 hown hK hP (14 * 2 + 0 + 11) (WIN_get (by decide) (by decide) rfl) rfl 1 (by decide) w5 (fun _ h9 => h9) rfl dX2_read_40 ?_
  refine wcVv (As := [.ref ((B 2) 1)]) (rest := []) ⟨hx, hb, hml, hown, hts⟩ (c_X2_readClouds l D T aK aV v B (va_up O 2 ((rd1 f0 ln (O 2, g)).1)) ((rd1 f0 ln (O 2, g)).2) ln un nx pl f0 f1 f2 hL2 (rd1_ok f0 ln (O 2, g)) hby (by first | (rw [va_up_at]; exact rd1_4 f0 ln (O 2, g)) | exact rd1_4 f0 ln (O 2, g)) _) (cwV 1 hts gX2_read_X2_readClouds rfl rfl rfl (by decide +kernel) ⟨Nat.le_of_ble_eq_true rfl, Nat.le_of_ble_eq_true rfl⟩) (Foc.rfl _ _) hC hK hP hD hS hA 1 rfl rfl rfl hl.1 rfl (Nat.le_of_ble_eq_true rfl) ⟨Nat.zero_le _, Nat.zero_le _⟩ dX2_read_43 (fun H locs hP hD hS => ?_)
  rw [WIN_uu, va_up_at, rd2_is] at hP hD
  have hP : va_P D vwCl (WIN T v B (va_up O 2 ((cloudsC f0 ln (((rd1 f0 ln (O 2, g)).1), ((rd1 f0 ln (O 2, g)).2))).2.1)) ((cloudsC f0 ln (((rd1 f0 ln (O 2, g)).1), ((rd1 f0 ln (O 2, g)).2))).2.2) ln un nx pl f0 f1 f2) H := hP
  have hD : va_D A (WIN T v B (va_up O 2 ((cloudsC f0 ln (((rd1 f0 ln (O 2, g)).1), ((rd1 f0 ln (O 2, g)).2))).2.1)) ((cloudsC f0 ln (((rd1 f0 ln (O 2, g)).1), ((rd1 f0 ln (O 2, g)).2))).2.2) ln un nx pl f0 f1 f2) := hD
  have hP : va_P D vwCl (WIN T v B (va_up O 2 ((rd2 f0 ln (O 2, g)).2.1)) ((rd2 f0 ln (O 2, g)).2.2) ln un nx pl f0 f1 f2) H := hP
  have hD : va_D A (WIN T v B (va_up O 2 ((rd2 f0 ln (O 2, g)).2.1)) ((rd2 f0 ln (O 2, g)).2.2) ln un nx pl f0 f1 f2) := hD
  refine lv_aload_n hx hb dX2_read_46 rfl (lv_at hl 0 rfl) ?_
  refine lv_aload_n hx hb dX2_read_47 rfl (lv_at hl 0 rfl) ?_
  refine va_get (D := D) (ci := 2) (v := .ref ((B 2) 0)) (C := RX2) (T := TX2) (N := 4) hx hb hts i2 hown hK hP 1 rfl rfl 3 (by decide) w4 (fun _ h9 => h9) rfl dX2_read_48 ?_
  refine va_get (D := D) (ci := 3) (v := .ref ((B 2) 3)) (C := RX3) (T := TX3) (N := 4) hx hb hts i3 hown hK hP (14 * 2 + 0 + 11) (WIN_get (by decide) (by decide) rfl) rfl 2 (by decide) w6 (fun _ h9 => h9) rfl dX2_read_51 ?_
  refine wcVv (As := [.ref ((B 2) 3)]) (rest := []) ⟨hx, hb, hml, hown, hts⟩ (c_X2_readClerks l D T aK aV v B (va_up O 2 ((rd2 f0 ln (O 2, g)).2.1)) ((rd2 f0 ln (O 2, g)).2.2) ln un nx pl f0 f1 f2 hL2 (rd2_ok f0 ln (O 2, g)) hby (by first | (rw [va_up_at]; exact rd2_5 f0 ln (O 2, g)) | exact rd2_5 f0 ln (O 2, g)) _) (cwV 1 hts gX2_read_X2_readClerks rfl rfl rfl (by decide +kernel) ⟨Nat.le_of_ble_eq_true rfl, Nat.le_of_ble_eq_true rfl⟩) (Foc.rfl _ _) hC hK hP hD hS hA 1 rfl rfl rfl hl.1 rfl (Nat.le_of_ble_eq_true rfl) ⟨Nat.zero_le _, Nat.zero_le _⟩ dX2_read_54 (fun H locs hP hD hS => ?_)
  rw [WIN_uu, va_up_at, rd3_is] at hP hD
  have hP : va_P D vwCl (WIN T v B (va_up O 2 ((ckL f0 ln 5 0 (((rd2 f0 ln (O 2, g)).2.1), ((rd2 f0 ln (O 2, g)).2.2))).2.1)) ((ckL f0 ln 5 0 (((rd2 f0 ln (O 2, g)).2.1), ((rd2 f0 ln (O 2, g)).2.2))).2.2) ln un nx pl f0 f1 f2) H := hP
  have hD : va_D A (WIN T v B (va_up O 2 ((ckL f0 ln 5 0 (((rd2 f0 ln (O 2, g)).2.1), ((rd2 f0 ln (O 2, g)).2.2))).2.1)) ((ckL f0 ln 5 0 (((rd2 f0 ln (O 2, g)).2.1), ((rd2 f0 ln (O 2, g)).2.2))).2.2) ln un nx pl f0 f1 f2) := hD
  have hP : va_P D vwCl (WIN T v B (va_up O 2 ((rd3 f0 ln (O 2, g)).2.1)) ((rd3 f0 ln (O 2, g)).2.2) ln un nx pl f0 f1 f2) H := hP
  have hD : va_D A (WIN T v B (va_up O 2 ((rd3 f0 ln (O 2, g)).2.1)) ((rd3 f0 ln (O 2, g)).2.2) ln un nx pl f0 f1 f2) := hD
  refine lv_aload_n hx hb dX2_read_57 rfl (lv_at hl 0 rfl) ?_
  refine lv_aload_n hx hb dX2_read_58 rfl (lv_at hl 0 rfl) ?_
  refine va_get (D := D) (ci := 2) (v := .ref ((B 2) 0)) (C := RX2) (T := TX2) (N := 4) hx hb hts i2 hown hK hP 1 rfl rfl 3 (by decide) w4 (fun _ h9 => h9) rfl dX2_read_59 ?_
  refine va_get (D := D) (ci := 3) (v := .ref ((B 2) 6)) (C := RX3) (T := TX3) (N := 4) hx hb hts i3 hown hK hP (14 * 2 + 0 + 11) (WIN_get (by decide) (by decide) rfl) rfl 3 (by decide) w7 (fun _ h9 => h9) rfl dX2_read_62 ?_
  refine wcVv (As := [.ref ((B 2) 6)]) (rest := []) ⟨hx, hb, hml, hown, hts⟩ (c_X2_readComplaints l D T aK aV v B (va_up O 2 ((rd3 f0 ln (O 2, g)).2.1)) ((rd3 f0 ln (O 2, g)).2.2) ln un nx pl f0 f1 f2 hL2 (rd3_ok f0 ln (O 2, g)) hby (by first | (rw [va_up_at]; exact rd3_7 f0 ln (O 2, g)) | exact rd3_7 f0 ln (O 2, g)) _) (cwV 1 hts gX2_read_X2_readComplaints rfl rfl rfl (by decide +kernel) ⟨Nat.le_of_ble_eq_true rfl, Nat.le_of_ble_eq_true rfl⟩) (Foc.rfl _ _) hC hK hP hD hS hA 1 rfl rfl rfl hl.1 rfl (Nat.le_of_ble_eq_true rfl) ⟨Nat.zero_le _, Nat.zero_le _⟩ dX2_read_65 (fun H locs hP hD hS => ?_)
  rw [WIN_uu, va_up_at, rd4_is] at hP hD
  have hP : va_P D vwCl (WIN T v B (va_up O 2 ((coL f0 ln 24 0 (((rd3 f0 ln (O 2, g)).2.1), ((rd3 f0 ln (O 2, g)).2.2))).2.1)) ((coL f0 ln 24 0 (((rd3 f0 ln (O 2, g)).2.1), ((rd3 f0 ln (O 2, g)).2.2))).2.2) ln un nx pl f0 f1 f2) H := hP
  have hD : va_D A (WIN T v B (va_up O 2 ((coL f0 ln 24 0 (((rd3 f0 ln (O 2, g)).2.1), ((rd3 f0 ln (O 2, g)).2.2))).2.1)) ((coL f0 ln 24 0 (((rd3 f0 ln (O 2, g)).2.1), ((rd3 f0 ln (O 2, g)).2.2))).2.2) ln un nx pl f0 f1 f2) := hD
  have hP : va_P D vwCl (WIN T v B (va_up O 2 ((rd4 f0 ln (O 2, g)).2.1)) ((rd4 f0 ln (O 2, g)).2.2) ln un nx pl f0 f1 f2) H := hP
  have hD : va_D A (WIN T v B (va_up O 2 ((rd4 f0 ln (O 2, g)).2.1)) ((rd4 f0 ln (O 2, g)).2.2) ln un nx pl f0 f1 f2) := hD
  refine lv_aload_n hx hb dX2_read_68 rfl (lv_at hl 0 rfl) ?_
  refine va_get (D := D) (ci := 2) (v := .ref (v 2)) (C := RX2) (T := TX2) (N := 4) hx hb hts i2 hown hK hP 1 rfl rfl 2 (by decide) w3 (fun _ h9 => h9) rfl dX2_read_69 ?_
  refine va_get (D := D) (ci := 1) (v := .int (((rd4 f0 ln (O 2, g)).2.2).1)) (C := RX1) (T := TX1) (N := 5) hx hb hts i1 hown hK hP 2 rfl rfl 1 (by decide) w8 (fun _ h9 => h9) rfl dX2_read_72 ?_
  refine lv_if_eq (tgt := 82) hx hb dX2_read_75 (by decide) (fun c75 => ?_) (fun c75 => ?_)
  ·
    refine lv_aload_n hx hb dX2_read_82 rfl (lv_at hl 0 rfl) ?_
    refine va_get (D := D) (ci := 2) (v := .ref (v 2)) (C := RX2) (T := TX2) (N := 4) hx hb hts i2 hown hK hP 1 rfl rfl 2 (by decide) w3 (fun _ h9 => h9) rfl dX2_read_83 ?_
    refine lv_iconst (v := 0) hx hb dX2_read_86 (by decide) ?_
    refine va_put (D := D) (ci := 1) (v := .int (0)) (ty := .int) (C := RX1) (T := TX1) (N := 5) hx hb hts i1 tyX1 tyX1_ok nmX1 hown hK hP hD hS 2 rfl rfl 0 (by decide) w9 (fun _ h9 => h9) rfl (by decide +kernel) rfl rfl (Nat.le_of_ble_eq_true rfl) dX2_read_87 (fun H locs hP hD hS => ?_)
    have hP : va_P D vwCl (WIN T v B (va_up O 2 ((rd4 f0 ln (O 2, g)).2.1)) ((rd4 f0 ln (O 2, g)).2.2) 0 un nx pl f0 f1 f2) H := hP
    have hD : va_D A (WIN T v B (va_up O 2 ((rd4 f0 ln (O 2, g)).2.1)) ((rd4 f0 ln (O 2, g)).2.2) 0 un nx pl f0 f1 f2) := hD
    have hE : (WIN T v B (va_up O 2 ((rd4 f0 ln (O 2, g)).2.1)) ((rd4 f0 ln (O 2, g)).2.2) 0 un nx pl f0 f1 f2 : va_W) = (WIN T v B (va_up O 2 ((rd4 f0 ln (O 2, g)).2.1)) (rd5 f0 ln (O 2, g)) 0 un nx pl f0 f1 f2) := by unfold rd5; first | (rw [if_pos c75]; done) | (rw [if_neg c75]; done)
    exact hret _ _ _ _ dX2_read_90 (by rw [← hE]; exact hP) (by rw [← hE]; exact hD) hS
  ·
    refine lv_aload_n hx hb dX2_read_78 rfl (lv_at hl 0 rfl) ?_
    refine wrVv (As := []) (rest := []) ⟨hx, hb, hml, hown, hts⟩ (c_X2_refuse l D T v B (va_up O 2 ((rd4 f0 ln (O 2, g)).2.1)) ((rd4 f0 ln (O 2, g)).2.2) ln un nx pl f0 f1 f2 _) (cwV 0 hts gX2_read_X2_refuse rfl rfl rfl (by decide +kernel) ⟨Nat.le_of_ble_eq_true rfl, Nat.le_of_ble_eq_true rfl⟩) (Foc.rfl _ _) hK hP hD hS hA 1 rfl rfl rfl hl.1 rfl (Nat.le_of_ble_eq_true rfl) ⟨Nat.zero_le _, Nat.zero_le _⟩ dX2_read_79 (fun H locs hP hD hS => ?_)
    have hP : va_P D vwCl (WIN T v B (va_up O 2 ((rd4 f0 ln (O 2, g)).2.1)) (refC ((rd4 f0 ln (O 2, g)).2.2)) ln un nx pl f0 f1 f2) H := hP
    have hD : va_D A (WIN T v B (va_up O 2 ((rd4 f0 ln (O 2, g)).2.1)) (refC ((rd4 f0 ln (O 2, g)).2.2)) ln un nx pl f0 f1 f2) := hD
    refine lv_aload_n hx hb dX2_read_82 rfl (lv_at hl 0 rfl) ?_
    refine va_get (D := D) (ci := 2) (v := .ref (v 2)) (C := RX2) (T := TX2) (N := 4) hx hb hts i2 hown hK hP 1 rfl rfl 2 (by decide) w3 (fun _ h9 => h9) rfl dX2_read_83 ?_
    refine lv_iconst (v := 0) hx hb dX2_read_86 (by decide) ?_
    refine va_put (D := D) (ci := 1) (v := .int (0)) (ty := .int) (C := RX1) (T := TX1) (N := 5) hx hb hts i1 tyX1 tyX1_ok nmX1 hown hK hP hD hS 2 rfl rfl 0 (by decide) w9 (fun _ h9 => h9) rfl (by decide +kernel) rfl rfl (Nat.le_of_ble_eq_true rfl) dX2_read_87 (fun H locs hP hD hS => ?_)
    have hP : va_P D vwCl (WIN T v B (va_up O 2 ((rd4 f0 ln (O 2, g)).2.1)) (refC ((rd4 f0 ln (O 2, g)).2.2)) 0 un nx pl f0 f1 f2) H := hP
    have hD : va_D A (WIN T v B (va_up O 2 ((rd4 f0 ln (O 2, g)).2.1)) (refC ((rd4 f0 ln (O 2, g)).2.2)) 0 un nx pl f0 f1 f2) := hD
    have hE : (WIN T v B (va_up O 2 ((rd4 f0 ln (O 2, g)).2.1)) (refC ((rd4 f0 ln (O 2, g)).2.2)) 0 un nx pl f0 f1 f2 : va_W) = (WIN T v B (va_up O 2 ((rd4 f0 ln (O 2, g)).2.1)) (rd5 f0 ln (O 2, g)) 0 un nx pl f0 f1 f2) := by unfold rd5; first | (rw [if_pos c75]; done) | (rw [if_neg c75]; done)
    exact hret _ _ _ _ dX2_read_90 (by rw [← hE]; exact hP) (by rw [← hE]; exact hD) hS

set_option maxHeartbeats 4000000 in
set_option maxRecDepth 100000 in
theorem c_X0_push (l : Launch) (D : va_G) (T : Nat → ClassId) (v : Nat → Nat) (B : Nat → Nat → Nat) (O : Nat → Nat → Nat → Int32) (g : CSt) (ln un nx pl : Nat) (f0 f1 f2 : Nat → Int32) (hu : un ≤ 8) (hnx : nx < 8) (sz : Nat) : Met l yX0_push wsX0_push ({ frames := 3, cells := 0, slots := 0, locals := 82 } : Room) (va_Pc [.ref (v 4), .ref ((B 0) 0)] (PS D T (WIN T v B O g ln un nx pl f0 f1 f2) sz)) (va_Qv (fun (_ : Unit) => True) (fun _ t => QS D T (va_A (WIN T v B O g ln un nx pl f0 f1 f2) sz) (WIN T v B (va_up O (3 + nx) (O 0)) g ln (if un = 8 then 8 else un + 1) ((nx + 1) % 8) pl f0 f1 f2) t) (va_A (WIN T v B O g ln un nx pl f0 f1 f2) sz)) 0 0 (va_A (WIN T v B O g ln un nx pl f0 f1 f2) sz) := by
  refine metSv (cc := cX0_push) (maxL := 2) (by decide) rfl (Nat.le_of_ble_eq_true rfl) ?_
  intro p e s m args below meth c Q ls A hx hb hml hown hts hP hK hD hA hS hl hret
  have hown : s.vm.findClass RX0 = some m.cls := hown
  have hl : lv_has ls 2 [(0, .ref (v 4)), (1, .ref ((B 0) 0))] := hl
  have i0 : ∀ w ∈ wsX00, w ∈ wsX0_push := by decide +kernel
  have w1 := hts (Cond.fieldLink RX0 11 "MoonComplaintWindow$History" "kept" "[LMoonComplaintWindow$Office;") (List.mem_of_getElem? (i := 1) rfl)
  have w2 := hts (Cond.fieldLink RX0 18 "MoonComplaintWindow$History" "next" "I") (List.mem_of_getElem? (i := 2) rfl)
  have w3 := hts (Cond.fieldLink RX0 26 "MoonComplaintWindow$History" "size" "I") (List.mem_of_getElem? (i := 3) rfl)
  have w4 := hts (Cond.methodLink RX0 29 Lib.Math.min.name) (List.mem_of_getElem? (i := 4) rfl)
  have w5 := hts (Cond.static Lib.Math.min.name) (List.mem_of_getElem? (i := 5) rfl)
  have w6 := hts (Cond.initialized "java/lang/Math") (List.mem_of_getElem? (i := 6) rfl)
  have w7 := hts (Cond.code Lib.Math.min.name Lib.Math.min.code 2 (some .int)) (List.mem_of_getElem? (i := 7) rfl)
  refine lv_aload_n hx hb dX0_push_0 rfl (lv_at hl 0 rfl) ?_
  refine va_get (D := D) (ci := 0) (v := .ref (v 5)) (C := RX0) (T := TX0) (N := 3) hx hb hts i0 hown hK hP 4 rfl rfl 2 (by decide) w1 (fun _ h9 => h9) rfl dX0_push_1 ?_
  refine lv_aload_n hx hb dX0_push_4 rfl (lv_at hl 0 rfl) ?_
  refine va_get (D := D) (ci := 0) (v := .int (nI nx)) (C := RX0) (T := TX0) (N := 3) hx hb hts i0 hown hK hP 4 rfl rfl 1 (by decide) w2 (fun _ h9 => h9) rfl dX0_push_5 ?_
  refine aldR hx hb hK hP 5 2 rfl rfl (nx) rfl (by omega) (by decide) dX0_push_8 ?_
  refine lv_aload_n hx hb dX0_push_9 rfl (lv_at hl 1 rfl) ?_
  refine wrVv (As := [.ref ((B 0) 0)]) (rest := []) ⟨hx, hb, hml, hown, hts⟩ (c_X3_copyFrom l D T (B (3 + nx)) (O (3 + nx)) (B 0) (O 0) _) (cwV 1 hts gX0_push_X3_copyFrom rfl rfl rfl (by decide +kernel) ⟨Nat.le_of_ble_eq_true rfl, Nat.le_of_ble_eq_true rfl⟩) (WIN_off2 (i := (3 + nx)) (j := 0) (by omega) (by decide) (by omega) ((O 0))) hK hP hD hS hA 0 rfl rfl rfl hl.1 rfl (Nat.le_of_ble_eq_true rfl) ⟨Nat.zero_le _, Nat.zero_le _⟩ dX0_push_10 (fun H locs hP hD hS => ?_)
  have hP : va_P D vwCl (WIN T v B (va_up O ((3 + nx)) ((O 0))) g ln un nx pl f0 f1 f2) H := hP
  have hD : va_D A (WIN T v B (va_up O ((3 + nx)) ((O 0))) g ln un nx pl f0 f1 f2) := hD
  refine lv_aload_n hx hb dX0_push_13 rfl (lv_at hl 0 rfl) ?_
  refine lv_aload_n hx hb dX0_push_14 rfl (lv_at hl 0 rfl) ?_
  refine va_get (D := D) (ci := 0) (v := .int (nI nx)) (C := RX0) (T := TX0) (N := 3) hx hb hts i0 hown hK hP 4 rfl rfl 1 (by decide) w2 (fun _ h9 => h9) rfl dX0_push_15 ?_
  refine lv_iconst (v := 1) hx hb dX0_push_18 (by decide) ?_
  refine lv_iadd hx hb dX0_push_19 ?_
  refine endI (r := nI (nx + 1)) (nI_add _ _) ?_
  refine lv_bipush (v := 8) hx hb dX0_push_20 (by decide) ?_
  refine lv_irem hx hb dX0_push_22 (by decide) ?_
  refine endI (r := nI ((nx + 1) % 8)) (pk_rem (by omega) (by decide) (by decide)) ?_
  refine va_put (D := D) (ci := 0) (v := .int (nI ((nx + 1) % 8))) (ty := .int) (C := RX0) (T := TX0) (N := 3) hx hb hts i0 tyX0 tyX0_ok nmX0 hown hK hP hD hS 4 rfl rfl 1 (by decide) w2 (fun _ h9 => h9) rfl (by decide +kernel) rfl rfl (Nat.le_of_ble_eq_true rfl) dX0_push_23 (fun H locs hP hD hS => ?_)
  have hP : va_P D vwCl (WIN T v B (va_up O ((3 + nx)) ((O 0))) g ln un ((nx + 1) % 8) pl f0 f1 f2) H := hP
  have hD : va_D A (WIN T v B (va_up O ((3 + nx)) ((O 0))) g ln un ((nx + 1) % 8) pl f0 f1 f2) := hD
  refine lv_aload_n hx hb dX0_push_26 rfl (lv_at hl 0 rfl) ?_
  refine lv_bipush (v := 8) hx hb dX0_push_27 (by decide) ?_
  refine lv_aload_n hx hb dX0_push_29 rfl (lv_at hl 0 rfl) ?_
  refine va_get (D := D) (ci := 0) (v := .int (nI un)) (C := RX0) (T := TX0) (N := 3) hx hb hts i0 hown hK hP 4 rfl rfl 0 (by decide) w3 (fun _ h9 => h9) rfl dX0_push_30 ?_
  refine lv_iconst (v := 1) hx hb dX0_push_33 (by decide) ?_
  refine lv_iadd hx hb dX0_push_34 ?_
  refine endI (r := nI (un + 1)) (nI_add _ _) ?_
  refine va_mmin hx hb (hml.trans hl.1.symm) hown w4 w5 w6 w7 (by decide) (Nat.le_of_ble_eq_true rfl) (Nat.zero_le _) (Nat.zero_le _) dX0_push_35 ?_
  refine endI (r := nI (if un = 8 then 8 else un + 1)) (by
    have h9 : ∀ u, u ≤ 8 → (if nI (u + 1) < 8 then nI (u + 1) else 8) = nI (if u = 8 then 8 else u + 1) := by decide
    exact h9 un hu) ?_
  refine va_put (D := D) (ci := 0) (v := .int (nI (if un = 8 then 8 else un + 1))) (ty := .int) (C := RX0) (T := TX0) (N := 3) hx hb hts i0 tyX0 tyX0_ok nmX0 hown hK hP hD hS 4 rfl rfl 0 (by decide) w3 (fun _ h9 => h9) rfl (by decide +kernel) rfl rfl (Nat.le_of_ble_eq_true rfl) dX0_push_38 (fun H locs hP hD hS => ?_)
  have hP : va_P D vwCl (WIN T v B (va_up O ((3 + nx)) ((O 0))) g ln (if un = 8 then 8 else un + 1) ((nx + 1) % 8) pl f0 f1 f2) H := hP
  have hD : va_D A (WIN T v B (va_up O ((3 + nx)) ((O 0))) g ln (if un = 8 then 8 else un + 1) ((nx + 1) % 8) pl f0 f1 f2) := hD
  have hE : (WIN T v B (va_up O ((3 + nx)) ((O 0))) g ln (if un = 8 then 8 else un + 1) ((nx + 1) % 8) pl f0 f1 f2 : va_W) = (WIN T v B (va_up O (3 + nx) (O 0)) g ln (if un = 8 then 8 else un + 1) ((nx + 1) % 8) pl f0 f1 f2) := by rfl
  exact hret _ _ _ _ dX0_push_41 (by rw [← hE]; exact hP) (by rw [← hE]; exact hD) hS

set_option maxHeartbeats 4000000 in
set_option maxRecDepth 100000 in
theorem c_X0_pop (l : Launch) (D : va_G) (T : Nat → ClassId) (v : Nat → Nat) (B : Nat → Nat → Nat) (O : Nat → Nat → Nat → Int32) (g : CSt) (ln un nx pl : Nat) (f0 f1 f2 : Nat → Int32) (hu : un ≤ 8) (hnx : nx < 8) (hu0 : 0 < un) (sz : Nat) : Met l yX0_pop wsX0_pop ({ frames := 3, cells := 0, slots := 0, locals := 82 } : Room) (va_Pc [.ref (v 4), .ref ((B 0) 0)] (PS D T (WIN T v B O g ln un nx pl f0 f1 f2) sz)) (va_Qv (fun (_ : Unit) => True) (fun _ t => QS D T (va_A (WIN T v B O g ln un nx pl f0 f1 f2) sz) (WIN T v B (va_up O 0 (O (3 + (nx + 7) % 8))) g ln (un - 1) ((nx + 7) % 8) pl f0 f1 f2) t) (va_A (WIN T v B O g ln un nx pl f0 f1 f2) sz)) 0 0 (va_A (WIN T v B O g ln un nx pl f0 f1 f2) sz) := by
  refine metSv (cc := cX0_pop) (maxL := 2) (by decide) rfl (Nat.le_of_ble_eq_true rfl) ?_
  intro p e s m args below meth c Q ls A hx hb hml hown hts hP hK hD hA hS hl hret
  have hown : s.vm.findClass RX0 = some m.cls := hown
  have hl : lv_has ls 2 [(0, .ref (v 4)), (1, .ref ((B 0) 0))] := hl
  have i0 : ∀ w ∈ wsX00, w ∈ wsX0_pop := by decide +kernel
  have w1 := hts (Cond.fieldLink RX0 26 "MoonComplaintWindow$History" "size" "I") (List.mem_of_getElem? (i := 1) rfl)
  have w2 := hts (Cond.fieldLink RX0 18 "MoonComplaintWindow$History" "next" "I") (List.mem_of_getElem? (i := 2) rfl)
  have w3 := hts (Cond.fieldLink RX0 11 "MoonComplaintWindow$History" "kept" "[LMoonComplaintWindow$Office;") (List.mem_of_getElem? (i := 3) rfl)
  refine lv_aload_n hx hb dX0_pop_0 rfl (lv_at hl 0 rfl) ?_
  refine va_get (D := D) (ci := 0) (v := .int (nI un)) (C := RX0) (T := TX0) (N := 3) hx hb hts i0 hown hK hP 4 rfl rfl 0 (by decide) w1 (fun _ h9 => h9) rfl dX0_pop_1 ?_
  refine lv_if_le (tgt := 46) hx hb dX0_pop_4 (by decide) (fun c4 => ?_) (fun c4 => ?_)
  ·
    have c4 : un ≤ 0 := (nI_leI (a := un) (b := 0) (by omega) (by omega)).mp c4
    exact absurd c4 (by omega)
  ·
    have c4 : ¬ un ≤ 0 := fun h9 => c4 ((nI_leI (a := un) (b := 0) (by omega) (by omega)).mpr h9)
    refine lv_aload_n hx hb dX0_pop_7 rfl (lv_at hl 0 rfl) ?_
    refine lv_aload_n hx hb dX0_pop_8 rfl (lv_at hl 0 rfl) ?_
    refine va_get (D := D) (ci := 0) (v := .int (nI nx)) (C := RX0) (T := TX0) (N := 3) hx hb hts i0 hown hK hP 4 rfl rfl 1 (by decide) w2 (fun _ h9 => h9) rfl dX0_pop_9 ?_
    refine lv_bipush (v := 8) hx hb dX0_pop_12 (by decide) ?_
    refine lv_iadd hx hb dX0_pop_14 ?_
    refine endI (r := nI (nx + 8)) (nI_add _ _) ?_
    refine lv_iconst (v := 1) hx hb dX0_pop_15 (by decide) ?_
    refine lv_isub hx hb dX0_pop_16 ?_
    refine endI (r := nI (nx + 7)) (nI_sub1 _) ?_
    refine lv_bipush (v := 8) hx hb dX0_pop_17 (by decide) ?_
    refine lv_irem hx hb dX0_pop_19 (by decide) ?_
    refine endI (r := nI ((nx + 7) % 8)) (pk_rem (by omega) (by decide) (by decide)) ?_
    refine va_put (D := D) (ci := 0) (v := .int (nI ((nx + 7) % 8))) (ty := .int) (C := RX0) (T := TX0) (N := 3) hx hb hts i0 tyX0 tyX0_ok nmX0 hown hK hP hD hS 4 rfl rfl 1 (by decide) w2 (fun _ h9 => h9) rfl (by decide +kernel) rfl rfl (Nat.le_of_ble_eq_true rfl) dX0_pop_20 (fun H locs hP hD hS => ?_)
    have hP : va_P D vwCl (WIN T v B O g ln un ((nx + 7) % 8) pl f0 f1 f2) H := hP
    have hD : va_D A (WIN T v B O g ln un ((nx + 7) % 8) pl f0 f1 f2) := hD
    refine lv_aload_n hx hb dX0_pop_23 rfl (lv_at hl 1 rfl) ?_
    refine lv_aload_n hx hb dX0_pop_24 rfl (lv_at hl 0 rfl) ?_
    refine va_get (D := D) (ci := 0) (v := .ref (v 5)) (C := RX0) (T := TX0) (N := 3) hx hb hts i0 hown hK hP 4 rfl rfl 2 (by decide) w3 (fun _ h9 => h9) rfl dX0_pop_25 ?_
    refine lv_aload_n hx hb dX0_pop_28 rfl (lv_at hl 0 rfl) ?_
    refine va_get (D := D) (ci := 0) (v := .int (nI ((nx + 7) % 8))) (C := RX0) (T := TX0) (N := 3) hx hb hts i0 hown hK hP 4 rfl rfl 1 (by decide) w2 (fun _ h9 => h9) rfl dX0_pop_29 ?_
    refine aldR hx hb hK hP 5 2 rfl rfl ((nx + 7) % 8) rfl (by omega) (by decide) dX0_pop_32 ?_
    refine wrVv (As := [.ref ((B (3 + ((nx + 7) % 8))) 0)]) (rest := []) ⟨hx, hb, hml, hown, hts⟩ (c_X3_copyFrom l D T (B 0) (O 0) (B (3 + ((nx + 7) % 8))) (O (3 + ((nx + 7) % 8))) _) (cwV 1 hts gX0_pop_X3_copyFrom rfl rfl rfl (by decide +kernel) ⟨Nat.le_of_ble_eq_true rfl, Nat.le_of_ble_eq_true rfl⟩) (WIN_off2 (i := 0) (j := (3 + ((nx + 7) % 8))) (by decide) (by omega) (by omega) ((O (3 + ((nx + 7) % 8))))) hK hP hD hS hA 0 rfl rfl rfl hl.1 rfl (Nat.le_of_ble_eq_true rfl) ⟨Nat.zero_le _, Nat.zero_le _⟩ dX0_pop_33 (fun H locs hP hD hS => ?_)
    have hP : va_P D vwCl (WIN T v B (va_up O 0 ((O (3 + ((nx + 7) % 8))))) g ln un ((nx + 7) % 8) pl f0 f1 f2) H := hP
    have hD : va_D A (WIN T v B (va_up O 0 ((O (3 + ((nx + 7) % 8))))) g ln un ((nx + 7) % 8) pl f0 f1 f2) := hD
    refine lv_aload_n hx hb dX0_pop_36 rfl (lv_at hl 0 rfl) ?_
    refine lv_dup hx hb dX0_pop_37 rfl ?_
    refine va_get (D := D) (ci := 0) (v := .int (nI un)) (C := RX0) (T := TX0) (N := 3) hx hb hts i0 hown hK hP 4 rfl rfl 0 (by decide) w1 (fun _ h9 => h9) rfl dX0_pop_38 ?_
    refine lv_iconst (v := 1) hx hb dX0_pop_41 (by decide) ?_
    refine lv_isub hx hb dX0_pop_42 ?_
    refine endI (r := nI (un - 1)) (pk_sub (a := un) (b := 1) (by omega)) ?_
    refine va_put (D := D) (ci := 0) (v := .int (nI (un - 1))) (ty := .int) (C := RX0) (T := TX0) (N := 3) hx hb hts i0 tyX0 tyX0_ok nmX0 hown hK hP hD hS 4 rfl rfl 0 (by decide) w1 (fun _ h9 => h9) rfl (by decide +kernel) rfl rfl (Nat.le_of_ble_eq_true rfl) dX0_pop_43 (fun H locs hP hD hS => ?_)
    have hP : va_P D vwCl (WIN T v B (va_up O 0 ((O (3 + ((nx + 7) % 8))))) g ln (un - 1) ((nx + 7) % 8) pl f0 f1 f2) H := hP
    have hD : va_D A (WIN T v B (va_up O 0 ((O (3 + ((nx + 7) % 8))))) g ln (un - 1) ((nx + 7) % 8) pl f0 f1 f2) := hD
    have hE : (WIN T v B (va_up O 0 ((O (3 + ((nx + 7) % 8))))) g ln (un - 1) ((nx + 7) % 8) pl f0 f1 f2 : va_W) = (WIN T v B (va_up O 0 (O (3 + (nx + 7) % 8))) g ln (un - 1) ((nx + 7) % 8) pl f0 f1 f2) := by rfl
    exact hret _ _ _ _ dX0_pop_46 (by rw [← hE]; exact hP) (by rw [← hE]; exact hD) hS

set_option maxHeartbeats 4000000 in
set_option maxRecDepth 100000 in
theorem c_X0_forget (l : Launch) (D : va_G) (T : Nat → ClassId) (v : Nat → Nat) (B : Nat → Nat → Nat) (O : Nat → Nat → Nat → Int32) (g : CSt) (ln un nx pl : Nat) (f0 f1 f2 : Nat → Int32) (sz : Nat) : Met l yX0_forget wsX0_forget ({ frames := 0, cells := 0, slots := 0, locals := 0 } : Room) (va_Pc [.ref (v 4)] (PS D T (WIN T v B O g ln un nx pl f0 f1 f2) sz)) (va_Qv (fun (_ : Unit) => True) (fun _ t => QS D T (va_A (WIN T v B O g ln un nx pl f0 f1 f2) sz) (WIN T v B O g ln 0 nx pl f0 f1 f2) t) (va_A (WIN T v B O g ln un nx pl f0 f1 f2) sz)) 0 0 (va_A (WIN T v B O g ln un nx pl f0 f1 f2) sz) := by
  refine metSv (cc := cX0_forget) (maxL := 1) (by decide) rfl (Nat.le_of_ble_eq_true rfl) ?_
  intro p e s m args below meth c Q ls A hx hb hml hown hts hP hK hD hA hS hl hret
  have hown : s.vm.findClass RX0 = some m.cls := hown
  have hl : lv_has ls 1 [(0, .ref (v 4))] := hl
  have i0 : ∀ w ∈ wsX00, w ∈ wsX0_forget := by decide +kernel
  have w1 := hts (Cond.fieldLink RX0 26 "MoonComplaintWindow$History" "size" "I") (List.mem_of_getElem? (i := 1) rfl)
  refine lv_aload_n hx hb dX0_forget_0 rfl (lv_at hl 0 rfl) ?_
  refine lv_iconst (v := 0) hx hb dX0_forget_1 (by decide) ?_
  refine va_put (D := D) (ci := 0) (v := .int (0)) (ty := .int) (C := RX0) (T := TX0) (N := 3) hx hb hts i0 tyX0 tyX0_ok nmX0 hown hK hP hD hS 4 rfl rfl 0 (by decide) w1 (fun _ h9 => h9) rfl (by decide +kernel) rfl rfl (Nat.le_of_ble_eq_true rfl) dX0_forget_2 (fun H locs hP hD hS => ?_)
  have hP : va_P D vwCl (WIN T v B O g ln 0 nx pl f0 f1 f2) H := hP
  have hD : va_D A (WIN T v B O g ln 0 nx pl f0 f1 f2) := hD
  exact hret _ _ _ _ dX0_forget_5 hP hD hS

set_option maxHeartbeats 4000000 in
set_option maxRecDepth 100000 in
theorem c_X7_put (l : Launch) (D : va_G) (T : Nat → ClassId) (v : Nat → Nat) (B : Nat → Nat → Nat) (O : Nat → Nat → Nat → Int32) (g : CSt) (ln un nx pl : Nat) (f0 f1 f2 : Nat → Int32) (k : Nat) (hk : k < 2) (sz : Nat) : Met l yX7_put wsX7_put ({ frames := 3, cells := 0, slots := 0, locals := 82 } : Room) (va_Pc [.ref (v 6), .int (nI k), .ref ((B 0) 0)] (PS D T (WIN T v B O g ln un nx pl f0 f1 f2) sz)) (va_Qv (fun (_ : Unit) => True) (fun _ t => QS D T (va_A (WIN T v B O g ln un nx pl f0 f1 f2) sz) (WIN T v B (va_up O (11 + k) (O 0)) g ln un nx pl f0 f1 (va_up f2 k 1)) t) (va_A (WIN T v B O g ln un nx pl f0 f1 f2) sz)) 0 0 (va_A (WIN T v B O g ln un nx pl f0 f1 f2) sz) := by
  refine metSv (cc := cX7_put) (maxL := 3) (by decide) rfl (Nat.le_of_ble_eq_true rfl) ?_
  intro p e s m args below meth c Q ls A hx hb hml hown hts hP hK hD hA hS hl hret
  have hown : s.vm.findClass RX7 = some m.cls := hown
  have hl : lv_has ls 3 [(0, .ref (v 6)), (1, .int (nI k)), (2, .ref ((B 0) 0))] := hl
  have i7 : ∀ w ∈ wsX70, w ∈ wsX7_put := by decide +kernel
  have w1 := hts (Cond.fieldLink RX7 17 "MoonComplaintWindow$Snapshots" "offices" "[LMoonComplaintWindow$Office;") (List.mem_of_getElem? (i := 1) rfl)
  have w2 := hts (Cond.fieldLink RX7 9 "MoonComplaintWindow$Snapshots" "taken" "[Z") (List.mem_of_getElem? (i := 2) rfl)
  refine lv_iload_n hx hb dX7_put_0 rfl (lv_at hl 1 rfl) ?_
  refine lv_if_lt (tgt := 26) hx hb dX7_put_1 (by decide) (fun c1 => ?_) (fun c1 => ?_)
  ·
    have c1 : k < 0 := (nI_ltI (a := k) (b := 0) (by omega) (by omega)).mp c1
    exact absurd c1 (by omega)
  ·
    have c1 : ¬ k < 0 := fun h9 => c1 ((nI_ltI (a := k) (b := 0) (by omega) (by omega)).mpr h9)
    refine lv_iload_n hx hb dX7_put_4 rfl (lv_at hl 1 rfl) ?_
    refine lv_iconst (v := 2) hx hb dX7_put_5 (by decide) ?_
    refine lv_icmp_ge (tgt := 26) hx hb dX7_put_6 (by decide) (fun c6 => ?_) (fun c6 => ?_)
    ·
      have c6 : 2 ≤ k := (nI_leI (a := 2) (b := k) (by omega) (by omega)).mp c6
      exact absurd c6 (by omega)
    ·
      have c6 : ¬ 2 ≤ k := fun h9 => c6 ((nI_leI (a := 2) (b := k) (by omega) (by omega)).mpr h9)
      refine lv_aload_n hx hb dX7_put_9 rfl (lv_at hl 0 rfl) ?_
      refine va_get (D := D) (ci := 7) (v := .ref (v 8)) (C := RX7) (T := TX7) (N := 2) hx hb hts i7 hown hK hP 6 rfl rfl 1 (by decide) w1 (fun _ h9 => h9) rfl dX7_put_10 ?_
      refine lv_iload_n hx hb dX7_put_13 rfl (lv_at hl 1 rfl) ?_
      refine aldR hx hb hK hP 8 2 rfl rfl (k) rfl (by omega) (by decide) dX7_put_14 ?_
      refine lv_aload_n hx hb dX7_put_15 rfl (lv_at hl 2 rfl) ?_
      refine wrVv (As := [.ref ((B 0) 0)]) (rest := []) ⟨hx, hb, hml, hown, hts⟩ (c_X3_copyFrom l D T (B (11 + k)) (O (11 + k)) (B 0) (O 0) _) (cwV 1 hts gX7_put_X3_copyFrom rfl rfl rfl (by decide +kernel) ⟨Nat.le_of_ble_eq_true rfl, Nat.le_of_ble_eq_true rfl⟩) (WIN_off2 (i := (11 + k)) (j := 0) (by omega) (by decide) (by omega) ((O 0))) hK hP hD hS hA 0 rfl rfl rfl hl.1 rfl (Nat.le_of_ble_eq_true rfl) ⟨Nat.zero_le _, Nat.zero_le _⟩ dX7_put_16 (fun H locs hP hD hS => ?_)
      have hP : va_P D vwCl (WIN T v B (va_up O ((11 + k)) ((O 0))) g ln un nx pl f0 f1 f2) H := hP
      have hD : va_D A (WIN T v B (va_up O ((11 + k)) ((O 0))) g ln un nx pl f0 f1 f2) := hD
      refine lv_aload_n hx hb dX7_put_19 rfl (lv_at hl 0 rfl) ?_
      refine va_get (D := D) (ci := 7) (v := .ref (v 7)) (C := RX7) (T := TX7) (N := 2) hx hb hts i7 hown hK hP 6 rfl rfl 0 (by decide) w2 (fun _ h9 => h9) rfl dX7_put_20 ?_
      refine lv_iload_n hx hb dX7_put_23 rfl (lv_at hl 1 rfl) ?_
      refine lv_iconst (v := 1) hx hb dX7_put_24 (by decide) ?_
      refine astZ hx hb hK hP hD hS 7 1 rfl rfl (k) rfl rfl (by omega) (by decide) dX7_put_25 (fun H locs hP hD hS => ?_)
      have hP : va_P D vwCl (WIN T v B (va_up O ((11 + k)) ((O 0))) g ln un nx pl f0 f1 (va_up f2 k 1)) H := hP
      have hD : va_D A (WIN T v B (va_up O ((11 + k)) ((O 0))) g ln un nx pl f0 f1 (va_up f2 k 1)) := hD
      have hE : (WIN T v B (va_up O ((11 + k)) ((O 0))) g ln un nx pl f0 f1 (va_up f2 k 1) : va_W) = (WIN T v B (va_up O (11 + k) (O 0)) g ln un nx pl f0 f1 (va_up f2 k 1)) := by rfl
      exact hret _ _ _ _ dX7_put_26 (by rw [← hE]; exact hP) (by rw [← hE]; exact hD) hS

set_option maxHeartbeats 4000000 in
set_option maxRecDepth 100000 in
theorem c_X7_forget (l : Launch) (D : va_G) (T : Nat → ClassId) (v : Nat → Nat) (B : Nat → Nat → Nat) (O : Nat → Nat → Nat → Int32) (g : CSt) (ln un nx pl : Nat) (f0 f1 f2 : Nat → Int32) (sz : Nat) : Met l yX7_forget wsX7_forget ({ frames := 0, cells := 0, slots := 0, locals := 0 } : Room) (va_Pc [.ref (v 6)] (PS D T (WIN T v B O g ln un nx pl f0 f1 f2) sz)) (va_Qv (fun (_ : Unit) => True) (fun _ t => QS D T (va_A (WIN T v B O g ln un nx pl f0 f1 f2) sz) (WIN T v B O g ln un nx pl f0 f1 (iter (fun k f => va_up f k 0) 2 0 f2)) t) (va_A (WIN T v B O g ln un nx pl f0 f1 f2) sz)) 0 0 (va_A (WIN T v B O g ln un nx pl f0 f1 f2) sz) := by
  refine metSv (cc := cX7_forget) (maxL := 2) (by decide) rfl (Nat.le_of_ble_eq_true rfl) ?_
  intro p e s m args below meth c Q ls A hx hb hml hown hts hP hK hD hA hS hl hret
  have hown : s.vm.findClass RX7 = some m.cls := hown
  have hl : lv_has ls 2 [(0, .ref (v 6))] := hl
  have i7 : ∀ w ∈ wsX70, w ∈ wsX7_forget := by decide +kernel
  have w1 := hts (Cond.fieldLink RX7 9 "MoonComplaintWindow$Snapshots" "taken" "[Z") (List.mem_of_getElem? (i := 1) rfl)
  refine lv_iconst (v := 0) hx hb dX7_forget_0 (by decide) ?_
  refine lv_istore_n (lv' := [(1, .int (0)), (0, .ref (v 6))]) hx hb dX7_forget_1 rfl hl (by decide) rfl (fun ls hl => ?_)
  have L2 : ∀ (n9 : Nat) (k : Nat) (f9 : Nat → Int32), (2 - k) < n9 → (k ≤ 2) → (iter (fun k f => va_up f k 0) (2 - k) k f9 = iter (fun k f => va_up f k 0) 2 0 f2) → ∀ (H : Heap) (locs : List Loc) (ls : Array Slot), va_P D vwCl (WIN T v B O g ln un nx pl f0 f1 f9) H → va_D A (WIN T v B O g ln un nx pl f0 f1 f9) → va_S A s.heap H locs → lv_has ls 2 [(1, .int (nI k)), (0, .ref (v 6))] → W p l e ({ frames := 0, cells := 0, slots := 0, locals := 0 } : Room) s m args below meth c H locs 0 0 Q (F0 m 2 ls []) := by
    intro n9
    induction n9 with
    | zero => intro k f9 hm9; exact absurd hm9 (Nat.not_lt_zero _)
    | succ n9 ih =>
      intro k f9 hm9 hk9 hR H locs ls hP hD hS hl
      refine lv_iload_n hx hb dX7_forget_2 rfl (lv_at hl 0 rfl) ?_
      refine lv_iconst (v := 2) hx hb dX7_forget_3 (by decide) ?_
      refine lv_icmp_ge (tgt := 20) hx hb dX7_forget_4 (by decide) (fun c4 => ?_) (fun c4 => ?_)
      ·
        have c4 : 2 ≤ k := (nI_leI (a := 2) (b := k) (by omega) (by omega)).mp c4
        have hE : (WIN T v B O g ln un nx pl f0 f1 f9 : va_W) = (WIN T v B O g ln un nx pl f0 f1 (iter (fun k f => va_up f k 0) 2 0 f2)) := by rw [iter_done (by omega)] at hR; rw [← hR]
        exact hret _ _ _ _ dX7_forget_20 (by rw [← hE]; exact hP) (by rw [← hE]; exact hD) hS
      ·
        have c4 : ¬ 2 ≤ k := fun h9 => c4 ((nI_leI (a := 2) (b := k) (by omega) (by omega)).mpr h9)
        refine lv_aload_n hx hb dX7_forget_7 rfl (lv_at hl 1 rfl) ?_
        refine va_get (D := D) (ci := 7) (v := .ref (v 7)) (C := RX7) (T := TX7) (N := 2) hx hb hts i7 hown hK hP 6 rfl rfl 0 (by decide) w1 (fun _ h9 => h9) rfl dX7_forget_8 ?_
        refine lv_iload_n hx hb dX7_forget_11 rfl (lv_at hl 0 rfl) ?_
        refine lv_iconst (v := 0) hx hb dX7_forget_12 (by decide) ?_
        refine astZ hx hb hK hP hD hS 7 1 rfl rfl (k) rfl rfl (by omega) (by decide) dX7_forget_13 (fun H locs hP hD hS => ?_)
        have hP : va_P D vwCl (WIN T v B O g ln un nx pl f0 f1 (va_up f9 k 0)) H := hP
        have hD : va_D A (WIN T v B O g ln un nx pl f0 f1 (va_up f9 k 0)) := hD
        refine lv_iinc (v := nI (k + 1)) (lv' := [(1, .int (nI (k + 1))), (0, .ref (v 6))]) hx hb dX7_forget_14 hl (k := 0) rfl (nI_1 _) (by decide) rfl (fun ls hl => ?_)
        refine lv_goto (tgt := 2) hx hb dX7_forget_17 (by decide) ?_
        exact ih (k + 1) (va_up f9 k 0) (by omega) (by omega) (by rw [iter_step (by omega)] at hR; exact hR) _ _ _ hP hD hS (lv_sub hl [0, 1] rfl)
  exact L2 _ 0 f2 (Nat.lt_succ_self _) (by omega) (by rfl) _ _ _ hP hD hS (lv_sub hl [0, 1] rfl)

set_option maxHeartbeats 4000000 in
set_option maxRecDepth 100000 in
theorem c_X4_put (l : Launch) (D : va_G) (T : Nat → ClassId) (v : Nat → Nat) (B : Nat → Nat → Nat) (O : Nat → Nat → Nat → Int32) (g : CSt) (ln un nx pl : Nat) (f0 f1 f2 : Nat → Int32) (z : Int32) (hpl : pl < 120) (sz : Nat) : Met l yX4_put wsX4_put ({ frames := 0, cells := 0, slots := 0, locals := 0 } : Room) (va_Pc [.ref (v 9), .int (z)] (PS D T (WIN T v B O g ln un nx pl f0 f1 f2) sz)) (va_Qv (fun (_ : Unit) => True) (fun _ t => QS D T (va_A (WIN T v B O g ln un nx pl f0 f1 f2) sz) (WIN T v B O g ln un nx (pl + 1) f0 (va_up f1 pl z) f2) t) (va_A (WIN T v B O g ln un nx pl f0 f1 f2) sz)) 0 0 (va_A (WIN T v B O g ln un nx pl f0 f1 f2) sz) := by
  refine metSv (cc := cX4_put) (maxL := 2) (by decide) rfl (Nat.le_of_ble_eq_true rfl) ?_
  intro p e s m args below meth c Q ls A hx hb hml hown hts hP hK hD hA hS hl hret
  have hown : s.vm.findClass RX4 = some m.cls := hown
  have hl : lv_has ls 2 [(0, .ref (v 9)), (1, .int (z))] := hl
  have i4 : ∀ w ∈ wsX40, w ∈ wsX4_put := by decide +kernel
  have w1 := hts (Cond.fieldLink RX4 23 "MoonComplaintWindow$Page" "length" "I") (List.mem_of_getElem? (i := 1) rfl)
  have w2 := hts (Cond.fieldLink RX4 11 "MoonComplaintWindow$Page" "bytes" "[I") (List.mem_of_getElem? (i := 2) rfl)
  refine lv_aload_n hx hb dX4_put_0 rfl (lv_at hl 0 rfl) ?_
  refine va_get (D := D) (ci := 4) (v := .int (nI pl)) (C := RX4) (T := TX4) (N := 2) hx hb hts i4 hown hK hP 9 rfl rfl 0 (by decide) w1 (fun _ h9 => h9) rfl dX4_put_1 ?_
  refine lv_aload_n hx hb dX4_put_4 rfl (lv_at hl 0 rfl) ?_
  refine va_get (D := D) (ci := 4) (v := .ref (v 10)) (C := RX4) (T := TX4) (N := 2) hx hb hts i4 hown hK hP 9 rfl rfl 1 (by decide) w2 (fun _ h9 => h9) rfl dX4_put_5 ?_
  refine va_alen (v := 120) hx hb hK hP 10 0 rfl rfl rfl dX4_put_8 ?_
  refine lv_icmp_ge (tgt := 32) hx hb dX4_put_9 (by decide) (fun c9 => ?_) (fun c9 => ?_)
  ·
    have c9 : 120 ≤ pl := (nI_leI (a := 120) (b := pl) (by omega) (by omega)).mp c9
    exact absurd c9 (by omega)
  ·
    have c9 : ¬ 120 ≤ pl := fun h9 => c9 ((nI_leI (a := 120) (b := pl) (by omega) (by omega)).mpr h9)
    refine lv_aload_n hx hb dX4_put_12 rfl (lv_at hl 0 rfl) ?_
    refine va_get (D := D) (ci := 4) (v := .ref (v 10)) (C := RX4) (T := TX4) (N := 2) hx hb hts i4 hown hK hP 9 rfl rfl 1 (by decide) w2 (fun _ h9 => h9) rfl dX4_put_13 ?_
    refine lv_aload_n hx hb dX4_put_16 rfl (lv_at hl 0 rfl) ?_
    refine va_get (D := D) (ci := 4) (v := .int (nI pl)) (C := RX4) (T := TX4) (N := 2) hx hb hts i4 hown hK hP 9 rfl rfl 0 (by decide) w1 (fun _ h9 => h9) rfl dX4_put_17 ?_
    refine lv_iload_n hx hb dX4_put_20 rfl (lv_at hl 1 rfl) ?_
    refine astI hx hb hK hP hD hS 10 0 rfl rfl (pl) rfl (by omega) (by decide) dX4_put_21 (fun H locs hP hD hS => ?_)
    have hP : va_P D vwCl (WIN T v B O g ln un nx pl f0 (va_up f1 pl z) f2) H := hP
    have hD : va_D A (WIN T v B O g ln un nx pl f0 (va_up f1 pl z) f2) := hD
    refine lv_aload_n hx hb dX4_put_22 rfl (lv_at hl 0 rfl) ?_
    refine lv_dup hx hb dX4_put_23 rfl ?_
    refine va_get (D := D) (ci := 4) (v := .int (nI pl)) (C := RX4) (T := TX4) (N := 2) hx hb hts i4 hown hK hP 9 rfl rfl 0 (by decide) w1 (fun _ h9 => h9) rfl dX4_put_24 ?_
    refine lv_iconst (v := 1) hx hb dX4_put_27 (by decide) ?_
    refine lv_iadd hx hb dX4_put_28 ?_
    refine endI (r := nI (pl + 1)) (nI_add _ _) ?_
    refine va_put (D := D) (ci := 4) (v := .int (nI (pl + 1))) (ty := .int) (C := RX4) (T := TX4) (N := 2) hx hb hts i4 tyX4 tyX4_ok nmX4 hown hK hP hD hS 9 rfl rfl 0 (by decide) w1 (fun _ h9 => h9) rfl (by decide +kernel) rfl rfl (Nat.le_of_ble_eq_true rfl) dX4_put_29 (fun H locs hP hD hS => ?_)
    have hP : va_P D vwCl (WIN T v B O g ln un nx (pl + 1) f0 (va_up f1 pl z) f2) H := hP
    have hD : va_D A (WIN T v B O g ln un nx (pl + 1) f0 (va_up f1 pl z) f2) := hD
    exact hret _ _ _ _ dX4_put_32 hP hD hS

set_option maxHeartbeats 4000000 in
set_option maxRecDepth 100000 in
theorem c_X4_letterOf (l : Launch) (D : va_G) (T : Nat → ClassId)  (q : Nat) (hq : q < 4) : Met l yX4_letterOf wsX4_letterOf ({ frames := 0, cells := 0, slots := 0, locals := 0 } : Room) (va_Pc [.int (nI q)] (fun _ => True)) (QcRead (sgnI q)) 0 0 (fun _ => False) := by
  refine metT (cc := cX4_letterOf) (maxL := 1) (ty := .char) (by decide) rfl (by exact sgn_nar hq) (Nat.le_of_ble_eq_true rfl) ?_
  intro p e s m args below meth c Q ls hx hb hml hown hts hl hret
  have hown : s.vm.findClass RX4 = some m.cls := hown
  have hl : lv_has ls 1 [(0, .int (nI q))] := hl
  refine lv_iload_n hx hb dX4_letterOf_0 rfl (lv_at hl 0 rfl) ?_
  obtain rfl | rfl | rfl | rfl : q = 0 ∨ q = 1 ∨ q = 2 ∨ q = 3 := by omega
  ·
    refine lv_tableIn (off := 27) (tgt := 28) hx hb dX4_letterOf_1 (by decide) (by decide) (by decide) (by decide) ?_
    refine lv_bipush (v := 119) hx hb dX4_letterOf_28 (by decide) ?_
    refine endI (r := sgnI 0) (by rfl) ?_
    exact hret ls _ dX4_letterOf_30
  ·
    refine lv_tableIn (off := 30) (tgt := 31) hx hb dX4_letterOf_1 (by decide) (by decide) (by decide) (by decide) ?_
    refine lv_bipush (v := 97) hx hb dX4_letterOf_31 (by decide) ?_
    refine endI (r := sgnI 1) (by rfl) ?_
    exact hret ls _ dX4_letterOf_33
  ·
    refine lv_tableIn (off := 33) (tgt := 34) hx hb dX4_letterOf_1 (by decide) (by decide) (by decide) (by decide) ?_
    refine lv_bipush (v := 100) hx hb dX4_letterOf_34 (by decide) ?_
    refine endI (r := sgnI 2) (by rfl) ?_
    exact hret ls _ dX4_letterOf_36
  ·
    refine lv_tableOut (tgt := 37) hx hb dX4_letterOf_1 (by decide) (by decide) ?_
    refine lv_bipush (v := 103) hx hb dX4_letterOf_37 (by decide) ?_
    refine endI (r := sgnI 3) (by rfl) ?_
    exact hret ls _ dX4_letterOf_39

set_option maxHeartbeats 4000000 in
set_option maxRecDepth 100000 in
theorem c_X4_writeLine (l : Launch) (D : va_G) (T : Nat → ClassId) (v : Nat → Nat) (B : Nat → Nat → Nat) (O : Nat → Nat → Nat → Int32) (g : CSt) (ln un nx pl : Nat) (f0 f1 f2 : Nat → Int32) (k : Nat) (q : Nat) (hk : k < 24) (hq : q < 4) (hpl : pl + 5 ≤ 120) (sz : Nat) : Met l yX4_writeLine wsX4_writeLine ({ frames := 1, cells := 0, slots := 0, locals := 21 } : Room) (va_Pc [.ref (v 9), .int (nI k), .int (nI q)] (PS D T (WIN T v B O g ln un nx pl f0 f1 f2) sz)) (va_Qv (fun (_ : Unit) => True) (fun _ t => QS D T (va_A (WIN T v B O g ln un nx pl f0 f1 f2) sz) (WIN T v B O g ln un nx ((wLine k q (f1, pl)).2) f0 ((wLine k q (f1, pl)).1) f2) t) (va_A (WIN T v B O g ln un nx pl f0 f1 f2) sz)) 0 0 (va_A (WIN T v B O g ln un nx pl f0 f1 f2) sz) := by
  refine metSv (cc := cX4_writeLine) (maxL := 3) (by decide) rfl (Nat.le_of_ble_eq_true rfl) ?_
  intro p e s m args below meth c Q ls A hx hb hml hown hts hP hK hD hA hS hl hret
  have hown : s.vm.findClass RX4 = some m.cls := hown
  have hl : lv_has ls 3 [(0, .ref (v 9)), (1, .int (nI k)), (2, .int (nI q))] := hl
  refine lv_iload_n hx hb dX4_writeLine_0 rfl (lv_at hl 1 rfl) ?_
  refine lv_bipush (v := 10) hx hb dX4_writeLine_1 (by decide) ?_
  refine lv_icmp_lt (tgt := 17) hx hb dX4_writeLine_3 (by decide) (fun c3 => ?_) (fun c3 => ?_)
  ·
    have c3 : k < 10 := (nI_ltI (a := k) (b := 10) (by omega) (by omega)).mp c3
    refine lv_aload_n hx hb dX4_writeLine_17 rfl (lv_at hl 0 rfl) ?_
    refine lv_bipush (v := 48) hx hb dX4_writeLine_18 (by decide) ?_
    refine lv_iload_n hx hb dX4_writeLine_20 rfl (lv_at hl 1 rfl) ?_
    refine lv_bipush (v := 10) hx hb dX4_writeLine_21 (by decide) ?_
    refine lv_irem hx hb dX4_writeLine_23 (by decide) ?_
    refine endI (r := nI (k % 10)) (rem10 (by omega)) ?_
    refine lv_iadd hx hb dX4_writeLine_24 ?_
    refine endI (r := nI (48 + (k % 10))) (nI_add _ _) ?_
    refine wrVv (As := [.int (nI (48 + (k % 10)))]) (rest := []) ⟨hx, hb, hml, hown, hts⟩ (c_X4_put l D T v B O g ln un nx pl f0 f1 f2 (nI (48 + (k % 10))) (by first | omega | assumption | decide) _) (cwV 1 hts gX4_writeLine_X4_put rfl rfl rfl (by decide +kernel) ⟨Nat.le_of_ble_eq_true rfl, Nat.le_of_ble_eq_true rfl⟩) (Foc.rfl _ _) hK hP hD hS hA 9 rfl rfl rfl hl.1 rfl (Nat.le_of_ble_eq_true rfl) ⟨Nat.zero_le _, Nat.zero_le _⟩ dX4_writeLine_25 (fun H locs hP hD hS => ?_)
    have hP : va_P D vwCl (WIN T v B O g ln un nx (pl + 1) f0 (va_up f1 pl (nI (48 + (k % 10)))) f2) H := hP
    have hD : va_D A (WIN T v B O g ln un nx (pl + 1) f0 (va_up f1 pl (nI (48 + (k % 10)))) f2) := hD
    refine lv_aload_n hx hb dX4_writeLine_28 rfl (lv_at hl 0 rfl) ?_
    refine lv_bipush (v := 58) hx hb dX4_writeLine_29 (by decide) ?_
    refine wrVv (As := [.int (58)]) (rest := []) ⟨hx, hb, hml, hown, hts⟩ (c_X4_put l D T v B O g ln un nx (pl + 1) f0 (va_up f1 pl (nI (48 + (k % 10)))) f2 58 (by first | omega | assumption | decide) _) (cwV 1 hts gX4_writeLine_X4_put rfl rfl rfl (by decide +kernel) ⟨Nat.le_of_ble_eq_true rfl, Nat.le_of_ble_eq_true rfl⟩) (Foc.rfl _ _) hK hP hD hS hA 9 rfl rfl rfl hl.1 rfl (Nat.le_of_ble_eq_true rfl) ⟨Nat.zero_le _, Nat.zero_le _⟩ dX4_writeLine_31 (fun H locs hP hD hS => ?_)
    have hP : va_P D vwCl (WIN T v B O g ln un nx ((pl + 1) + 1) f0 (va_up (va_up f1 pl (nI (48 + (k % 10)))) (pl + 1) 58) f2) H := hP
    have hD : va_D A (WIN T v B O g ln un nx ((pl + 1) + 1) f0 (va_up (va_up f1 pl (nI (48 + (k % 10)))) (pl + 1) 58) f2) := hD
    refine lv_aload_n hx hb dX4_writeLine_34 rfl (lv_at hl 0 rfl) ?_
    refine lv_iload_n hx hb dX4_writeLine_35 rfl (lv_at hl 2 rfl) ?_
    refine rdT (As := [.int (nI q)]) (rest := [.ref (v 9)]) ⟨hx, hb, hml, hown, hts⟩ (c_X4_letterOf l D T q (by first | omega | assumption | decide)) (va_cwS 1 hts gX4_writeLine_X4_letterOf rfl rfl rfl (by decide +kernel) ⟨Nat.le_of_ble_eq_true rfl, Nat.le_of_ble_eq_true rfl⟩) rfl hl.1 rfl (Nat.le_of_ble_eq_true rfl) ⟨Nat.zero_le _, Nat.zero_le _⟩ dX4_writeLine_36 ?_
    refine wrVv (As := [.int (sgnI q)]) (rest := []) ⟨hx, hb, hml, hown, hts⟩ (c_X4_put l D T v B O g ln un nx ((pl + 1) + 1) f0 (va_up (va_up f1 pl (nI (48 + (k % 10)))) (pl + 1) 58) f2 (sgnI q) (by first | omega | assumption | decide) _) (cwV 1 hts gX4_writeLine_X4_put rfl rfl rfl (by decide +kernel) ⟨Nat.le_of_ble_eq_true rfl, Nat.le_of_ble_eq_true rfl⟩) (Foc.rfl _ _) hK hP hD hS hA 9 rfl rfl rfl hl.1 rfl (Nat.le_of_ble_eq_true rfl) ⟨Nat.zero_le _, Nat.zero_le _⟩ dX4_writeLine_39 (fun H locs hP hD hS => ?_)
    have hP : va_P D vwCl (WIN T v B O g ln un nx (((pl + 1) + 1) + 1) f0 (va_up (va_up (va_up f1 pl (nI (48 + (k % 10)))) (pl + 1) 58) ((pl + 1) + 1) (sgnI q)) f2) H := hP
    have hD : va_D A (WIN T v B O g ln un nx (((pl + 1) + 1) + 1) f0 (va_up (va_up (va_up f1 pl (nI (48 + (k % 10)))) (pl + 1) 58) ((pl + 1) + 1) (sgnI q)) f2) := hD
    refine lv_aload_n hx hb dX4_writeLine_42 rfl (lv_at hl 0 rfl) ?_
    refine lv_bipush (v := 10) hx hb dX4_writeLine_43 (by decide) ?_
    refine wrVv (As := [.int (10)]) (rest := []) ⟨hx, hb, hml, hown, hts⟩ (c_X4_put l D T v B O g ln un nx (((pl + 1) + 1) + 1) f0 (va_up (va_up (va_up f1 pl (nI (48 + (k % 10)))) (pl + 1) 58) ((pl + 1) + 1) (sgnI q)) f2 10 (by first | omega | assumption | decide) _) (cwV 1 hts gX4_writeLine_X4_put rfl rfl rfl (by decide +kernel) ⟨Nat.le_of_ble_eq_true rfl, Nat.le_of_ble_eq_true rfl⟩) (Foc.rfl _ _) hK hP hD hS hA 9 rfl rfl rfl hl.1 rfl (Nat.le_of_ble_eq_true rfl) ⟨Nat.zero_le _, Nat.zero_le _⟩ dX4_writeLine_45 (fun H locs hP hD hS => ?_)
    have hP : va_P D vwCl (WIN T v B O g ln un nx ((((pl + 1) + 1) + 1) + 1) f0 (va_up (va_up (va_up (va_up f1 pl (nI (48 + (k % 10)))) (pl + 1) 58) ((pl + 1) + 1) (sgnI q)) (((pl + 1) + 1) + 1) 10) f2) H := hP
    have hD : va_D A (WIN T v B O g ln un nx ((((pl + 1) + 1) + 1) + 1) f0 (va_up (va_up (va_up (va_up f1 pl (nI (48 + (k % 10)))) (pl + 1) 58) ((pl + 1) + 1) (sgnI q)) (((pl + 1) + 1) + 1) 10) f2) := hD
    have hE : (WIN T v B O g ln un nx ((((pl + 1) + 1) + 1) + 1) f0 (va_up (va_up (va_up (va_up f1 pl (nI (48 + (k % 10)))) (pl + 1) 58) ((pl + 1) + 1) (sgnI q)) (((pl + 1) + 1) + 1) 10) f2 : va_W) = (WIN T v B O g ln un nx ((wLine k q (f1, pl)).2) f0 ((wLine k q (f1, pl)).1) f2) := by simp only [wLine, wPut]; first | (rw [if_pos (show 9 < k from by omega)]; done) | (rw [if_neg (show ¬ 9 < k from by omega)]; done)
    exact hret _ _ _ _ dX4_writeLine_48 (by rw [← hE]; exact hP) (by rw [← hE]; exact hD) hS
  ·
    have c3 : ¬ k < 10 := fun h9 => c3 ((nI_ltI (a := k) (b := 10) (by omega) (by omega)).mpr h9)
    refine lv_aload_n hx hb dX4_writeLine_6 rfl (lv_at hl 0 rfl) ?_
    refine lv_bipush (v := 48) hx hb dX4_writeLine_7 (by decide) ?_
    refine lv_iload_n hx hb dX4_writeLine_9 rfl (lv_at hl 1 rfl) ?_
    refine lv_bipush (v := 10) hx hb dX4_writeLine_10 (by decide) ?_
    refine lv_idiv hx hb dX4_writeLine_12 (by decide) ?_
    refine endI (r := nI (k / 10)) (div10 (by omega)) ?_
    refine lv_iadd hx hb dX4_writeLine_13 ?_
    refine endI (r := nI (48 + (k / 10))) (nI_add _ _) ?_
    refine wrVv (As := [.int (nI (48 + (k / 10)))]) (rest := []) ⟨hx, hb, hml, hown, hts⟩ (c_X4_put l D T v B O g ln un nx pl f0 f1 f2 (nI (48 + (k / 10))) (by first | omega | assumption | decide) _) (cwV 1 hts gX4_writeLine_X4_put rfl rfl rfl (by decide +kernel) ⟨Nat.le_of_ble_eq_true rfl, Nat.le_of_ble_eq_true rfl⟩) (Foc.rfl _ _) hK hP hD hS hA 9 rfl rfl rfl hl.1 rfl (Nat.le_of_ble_eq_true rfl) ⟨Nat.zero_le _, Nat.zero_le _⟩ dX4_writeLine_14 (fun H locs hP hD hS => ?_)
    have hP : va_P D vwCl (WIN T v B O g ln un nx (pl + 1) f0 (va_up f1 pl (nI (48 + (k / 10)))) f2) H := hP
    have hD : va_D A (WIN T v B O g ln un nx (pl + 1) f0 (va_up f1 pl (nI (48 + (k / 10)))) f2) := hD
    refine lv_aload_n hx hb dX4_writeLine_17 rfl (lv_at hl 0 rfl) ?_
    refine lv_bipush (v := 48) hx hb dX4_writeLine_18 (by decide) ?_
    refine lv_iload_n hx hb dX4_writeLine_20 rfl (lv_at hl 1 rfl) ?_
    refine lv_bipush (v := 10) hx hb dX4_writeLine_21 (by decide) ?_
    refine lv_irem hx hb dX4_writeLine_23 (by decide) ?_
    refine endI (r := nI (k % 10)) (rem10 (by omega)) ?_
    refine lv_iadd hx hb dX4_writeLine_24 ?_
    refine endI (r := nI (48 + (k % 10))) (nI_add _ _) ?_
    refine wrVv (As := [.int (nI (48 + (k % 10)))]) (rest := []) ⟨hx, hb, hml, hown, hts⟩ (c_X4_put l D T v B O g ln un nx (pl + 1) f0 (va_up f1 pl (nI (48 + (k / 10)))) f2 (nI (48 + (k % 10))) (by first | omega | assumption | decide) _) (cwV 1 hts gX4_writeLine_X4_put rfl rfl rfl (by decide +kernel) ⟨Nat.le_of_ble_eq_true rfl, Nat.le_of_ble_eq_true rfl⟩) (Foc.rfl _ _) hK hP hD hS hA 9 rfl rfl rfl hl.1 rfl (Nat.le_of_ble_eq_true rfl) ⟨Nat.zero_le _, Nat.zero_le _⟩ dX4_writeLine_25 (fun H locs hP hD hS => ?_)
    have hP : va_P D vwCl (WIN T v B O g ln un nx ((pl + 1) + 1) f0 (va_up (va_up f1 pl (nI (48 + (k / 10)))) (pl + 1) (nI (48 + (k % 10)))) f2) H := hP
    have hD : va_D A (WIN T v B O g ln un nx ((pl + 1) + 1) f0 (va_up (va_up f1 pl (nI (48 + (k / 10)))) (pl + 1) (nI (48 + (k % 10)))) f2) := hD
    refine lv_aload_n hx hb dX4_writeLine_28 rfl (lv_at hl 0 rfl) ?_
    refine lv_bipush (v := 58) hx hb dX4_writeLine_29 (by decide) ?_
    refine wrVv (As := [.int (58)]) (rest := []) ⟨hx, hb, hml, hown, hts⟩ (c_X4_put l D T v B O g ln un nx ((pl + 1) + 1) f0 (va_up (va_up f1 pl (nI (48 + (k / 10)))) (pl + 1) (nI (48 + (k % 10)))) f2 58 (by first | omega | assumption | decide) _) (cwV 1 hts gX4_writeLine_X4_put rfl rfl rfl (by decide +kernel) ⟨Nat.le_of_ble_eq_true rfl, Nat.le_of_ble_eq_true rfl⟩) (Foc.rfl _ _) hK hP hD hS hA 9 rfl rfl rfl hl.1 rfl (Nat.le_of_ble_eq_true rfl) ⟨Nat.zero_le _, Nat.zero_le _⟩ dX4_writeLine_31 (fun H locs hP hD hS => ?_)
    have hP : va_P D vwCl (WIN T v B O g ln un nx (((pl + 1) + 1) + 1) f0 (va_up (va_up (va_up f1 pl (nI (48 + (k / 10)))) (pl + 1) (nI (48 + (k % 10)))) ((pl + 1) + 1) 58) f2) H := hP
    have hD : va_D A (WIN T v B O g ln un nx (((pl + 1) + 1) + 1) f0 (va_up (va_up (va_up f1 pl (nI (48 + (k / 10)))) (pl + 1) (nI (48 + (k % 10)))) ((pl + 1) + 1) 58) f2) := hD
    refine lv_aload_n hx hb dX4_writeLine_34 rfl (lv_at hl 0 rfl) ?_
    refine lv_iload_n hx hb dX4_writeLine_35 rfl (lv_at hl 2 rfl) ?_
    refine rdT (As := [.int (nI q)]) (rest := [.ref (v 9)]) ⟨hx, hb, hml, hown, hts⟩ (c_X4_letterOf l D T q (by first | omega | assumption | decide)) (va_cwS 1 hts gX4_writeLine_X4_letterOf rfl rfl rfl (by decide +kernel) ⟨Nat.le_of_ble_eq_true rfl, Nat.le_of_ble_eq_true rfl⟩) rfl hl.1 rfl (Nat.le_of_ble_eq_true rfl) ⟨Nat.zero_le _, Nat.zero_le _⟩ dX4_writeLine_36 ?_
    refine wrVv (As := [.int (sgnI q)]) (rest := []) ⟨hx, hb, hml, hown, hts⟩ (c_X4_put l D T v B O g ln un nx (((pl + 1) + 1) + 1) f0 (va_up (va_up (va_up f1 pl (nI (48 + (k / 10)))) (pl + 1) (nI (48 + (k % 10)))) ((pl + 1) + 1) 58) f2 (sgnI q) (by first | omega | assumption | decide) _) (cwV 1 hts gX4_writeLine_X4_put rfl rfl rfl (by decide +kernel) ⟨Nat.le_of_ble_eq_true rfl, Nat.le_of_ble_eq_true rfl⟩) (Foc.rfl _ _) hK hP hD hS hA 9 rfl rfl rfl hl.1 rfl (Nat.le_of_ble_eq_true rfl) ⟨Nat.zero_le _, Nat.zero_le _⟩ dX4_writeLine_39 (fun H locs hP hD hS => ?_)
    have hP : va_P D vwCl (WIN T v B O g ln un nx ((((pl + 1) + 1) + 1) + 1) f0 (va_up (va_up (va_up (va_up f1 pl (nI (48 + (k / 10)))) (pl + 1) (nI (48 + (k % 10)))) ((pl + 1) + 1) 58) (((pl + 1) + 1) + 1) (sgnI q)) f2) H := hP
    have hD : va_D A (WIN T v B O g ln un nx ((((pl + 1) + 1) + 1) + 1) f0 (va_up (va_up (va_up (va_up f1 pl (nI (48 + (k / 10)))) (pl + 1) (nI (48 + (k % 10)))) ((pl + 1) + 1) 58) (((pl + 1) + 1) + 1) (sgnI q)) f2) := hD
    refine lv_aload_n hx hb dX4_writeLine_42 rfl (lv_at hl 0 rfl) ?_
    refine lv_bipush (v := 10) hx hb dX4_writeLine_43 (by decide) ?_
    refine wrVv (As := [.int (10)]) (rest := []) ⟨hx, hb, hml, hown, hts⟩ (c_X4_put l D T v B O g ln un nx ((((pl + 1) + 1) + 1) + 1) f0 (va_up (va_up (va_up (va_up f1 pl (nI (48 + (k / 10)))) (pl + 1) (nI (48 + (k % 10)))) ((pl + 1) + 1) 58) (((pl + 1) + 1) + 1) (sgnI q)) f2 10 (by first | omega | assumption | decide) _) (cwV 1 hts gX4_writeLine_X4_put rfl rfl rfl (by decide +kernel) ⟨Nat.le_of_ble_eq_true rfl, Nat.le_of_ble_eq_true rfl⟩) (Foc.rfl _ _) hK hP hD hS hA 9 rfl rfl rfl hl.1 rfl (Nat.le_of_ble_eq_true rfl) ⟨Nat.zero_le _, Nat.zero_le _⟩ dX4_writeLine_45 (fun H locs hP hD hS => ?_)
    have hP : va_P D vwCl (WIN T v B O g ln un nx (((((pl + 1) + 1) + 1) + 1) + 1) f0 (va_up (va_up (va_up (va_up (va_up f1 pl (nI (48 + (k / 10)))) (pl + 1) (nI (48 + (k % 10)))) ((pl + 1) + 1) 58) (((pl + 1) + 1) + 1) (sgnI q)) ((((pl + 1) + 1) + 1) + 1) 10) f2) H := hP
    have hD : va_D A (WIN T v B O g ln un nx (((((pl + 1) + 1) + 1) + 1) + 1) f0 (va_up (va_up (va_up (va_up (va_up f1 pl (nI (48 + (k / 10)))) (pl + 1) (nI (48 + (k % 10)))) ((pl + 1) + 1) 58) (((pl + 1) + 1) + 1) (sgnI q)) ((((pl + 1) + 1) + 1) + 1) 10) f2) := hD
    have hE : (WIN T v B O g ln un nx (((((pl + 1) + 1) + 1) + 1) + 1) f0 (va_up (va_up (va_up (va_up (va_up f1 pl (nI (48 + (k / 10)))) (pl + 1) (nI (48 + (k % 10)))) ((pl + 1) + 1) 58) (((pl + 1) + 1) + 1) (sgnI q)) ((((pl + 1) + 1) + 1) + 1) 10) f2 : va_W) = (WIN T v B O g ln un nx ((wLine k q (f1, pl)).2) f0 ((wLine k q (f1, pl)).1) f2) := by simp only [wLine, wPut]; first | (rw [if_pos (show 9 < k from by omega)]; done) | (rw [if_neg (show ¬ 9 < k from by omega)]; done)
    exact hret _ _ _ _ dX4_writeLine_48 (by rw [← hE]; exact hP) (by rw [← hE]; exact hD) hS
