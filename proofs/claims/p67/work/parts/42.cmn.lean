set_option maxHeartbeats 4000000 in
set_option maxRecDepth 100000 in
theorem c_X9_meanWait (l : Launch) (D : va_G) (T : Nat → ClassId) (v : Nat → Nat) (B : Nat → Nat → Nat) (O : Nat → Nat → Nat → Int32) (g : CSt) (ln un nx pl : Nat) (f0 f1 f2 : Nat → Int32) (N : Nat) (K : Nat) (C : Nat) (nt : Nat) (hOI : OI (O 0) N K C nt) (sz : Nat) : Met l yX9_meanWait wsX9_meanWait ({ frames := 1, cells := 0, slots := 0, locals := 23 } : Room) (va_Pc [.ref (v 0)] (PS D T (WIN T v B O g ln un nx pl f0 f1 f2) sz)) (va_Qd (fun r9 (_ : Unit) => r9 = (meanI (sumI (fun k => decide ((O 0) 8 k = 1)) (fun k => (O 0) 9 k - (O 0) 7 k) N 0 0) (cntC (O 0) 1 N))) (fun _ t => QS D T (va_A (WIN T v B O g ln un nx pl f0 f1 f2) sz) (WIN T v B O g ln un nx pl f0 f1 f2) t) (va_A (WIN T v B O g ln un nx pl f0 f1 f2) sz)) 0 0 (va_A (WIN T v B O g ln un nx pl f0 f1 f2) sz) := by
  refine metSd (cc := cX9_meanWait) (maxL := 2) (by decide) rfl (Nat.le_of_ble_eq_true rfl) ?_
  intro p e s m args below meth c Q ls A hx hb hml hown hts hP hK hD hA hS hl hret
  have hown : s.vm.findClass RX9 = some m.cls := hown
  have hl : lv_has ls 2 [(0, .ref (v 0))] := hl
  have i3 : ∀ w ∈ wsX30, w ∈ wsX9_meanWait := by decide +kernel
  have i9 : ∀ w ∈ wsX90, w ∈ wsX9_meanWait := by decide +kernel
  have w1 := hts (Cond.fieldLink RX9 19 "MoonComplaintWindow" "office" "LMoonComplaintWindow$Office;") (List.mem_of_getElem? (i := 1) rfl)
  have w2 := hts (Cond.fieldLink RX9 107 "MoonComplaintWindow$Office" "pile" "LMoonComplaintWindow$Pile;") (List.mem_of_getElem? (i := 2) rfl)
  obtain ⟨hN, hN2, hKn, hK2, hCn, hC1, hC2, hn, hnt, hSK⟩ := id hOI
  refine lv_aload_n hx hb dX9_meanWait_0 rfl (lv_at hl 0 rfl) ?_
  refine va_get (D := D) (ci := 9) (v := .ref ((B 0) 0)) (C := RX9) (T := TX9) (N := 6) hx hb hts i9 hown hK hP 0 rfl rfl 1 (by decide) w1 (fun _ h9 => h9) rfl dX9_meanWait_1 ?_
  refine va_get (D := D) (ci := 3) (v := .ref ((B 0) 6)) (C := RX3) (T := TX3) (N := 4) hx hb hts i3 hown hK hP (14 * 0 + 0 + 11) (WIN_get (by decide) (by decide) rfl) rfl 3 (by decide) w2 (fun _ h9 => h9) rfl dX9_meanWait_4 ?_
  refine lv_iconst (v := 1) hx hb dX9_meanWait_7 (by decide) ?_
  refine rdV (As := [.int (1)]) (rest := []) ⟨hx, hb, hml, hown, hts⟩ (c_X5_countInState l D T (B 0) (O 0) 1 N hN hN2) (cwV 1 hts gX9_meanWait_X5_countInState rfl rfl rfl (by decide +kernel) ⟨Nat.le_of_ble_eq_true rfl, Nat.le_of_ble_eq_true rfl⟩) hK ((WIN_off (j := 0) (by decide) (O 0)).subP hP) 6 rfl rfl rfl hl.1 rfl (Nat.le_of_ble_eq_true rfl) ⟨Nat.zero_le _, Nat.zero_le _⟩ dX9_meanWait_8 ?_
  refine lv_istore_n (lv' := [(1, .int (cntI (fun k => decide ((O 0) 8 k = 1)) N 0 0)), (0, .ref (v 0))]) hx hb dX9_meanWait_11 rfl hl (by decide) rfl (fun ls hl => ?_)
  refine lv_iload_n hx hb dX9_meanWait_12 rfl (lv_at hl 0 rfl) ?_
  refine lv_if_ne (tgt := 18) hx hb dX9_meanWait_13 (by decide) (fun c13 => ?_) (fun c13 => ?_)
  ·
    have c13 : ¬ cntC (O 0) 1 N = 0 := c13
    refine lv_aload_n hx hb dX9_meanWait_18 rfl (lv_at hl 1 rfl) ?_
    refine va_get (D := D) (ci := 9) (v := .ref ((B 0) 0)) (C := RX9) (T := TX9) (N := 6) hx hb hts i9 hown hK hP 0 rfl rfl 1 (by decide) w1 (fun _ h9 => h9) rfl dX9_meanWait_19 ?_
    refine va_get (D := D) (ci := 3) (v := .ref ((B 0) 6)) (C := RX3) (T := TX3) (N := 4) hx hb hts i3 hown hK hP (14 * 0 + 0 + 11) (WIN_get (by decide) (by decide) rfl) rfl 3 (by decide) w2 (fun _ h9 => h9) rfl dX9_meanWait_22 ?_
    refine rdV (As := []) (rest := []) ⟨hx, hb, hml, hown, hts⟩ (c_X5_sumAnsweredWait l D T (B 0) (O 0) N hN hN2) (cwV 0 hts gX9_meanWait_X5_sumAnsweredWait rfl rfl rfl (by decide +kernel) ⟨Nat.le_of_ble_eq_true rfl, Nat.le_of_ble_eq_true rfl⟩) hK ((WIN_off (j := 0) (by decide) (O 0)).subP hP) 6 rfl rfl rfl hl.1 rfl (Nat.le_of_ble_eq_true rfl) ⟨Nat.zero_le _, Nat.zero_le _⟩ dX9_meanWait_25 ?_
    refine lv_i2d hx hb dX9_meanWait_28 ?_
    refine lv_iload_n hx hb dX9_meanWait_29 rfl (lv_at hl 0 rfl) ?_
    refine lv_i2d hx hb dX9_meanWait_30 ?_
    refine lv_ddiv hx hb dX9_meanWait_31 (ddiv_ok _ _ c13) ?_
    refine endD (r := meanI (sumI (fun k => decide ((O 0) 8 k = 1)) (fun k => (O 0) 9 k - (O 0) 7 k) N 0 0) (cntC (O 0) 1 N)) (by first | exact (if_pos c13).symm | exact (if_neg c13).symm) ?_
    exact hret _ _ _ _ dX9_meanWait_32 hP hD hS
  ·
    have c13 : cntC (O 0) 1 N = 0 := c13
    refine lv_dconst0 hx hb dX9_meanWait_16 ?_
    refine endD (r := meanI (sumI (fun k => decide ((O 0) 8 k = 1)) (fun k => (O 0) 9 k - (O 0) 7 k) N 0 0) (cntC (O 0) 1 N)) (by first | exact (if_pos c13).symm | exact (if_neg c13).symm) ?_
    exact hret _ _ _ _ dX9_meanWait_17 hP hD hS

set_option maxHeartbeats 4000000 in
set_option maxRecDepth 100000 in
theorem c_X9_answeredShare (l : Launch) (D : va_G) (T : Nat → ClassId) (v : Nat → Nat) (B : Nat → Nat → Nat) (O : Nat → Nat → Nat → Int32) (g : CSt) (ln un nx pl : Nat) (f0 f1 f2 : Nat → Int32) (N : Nat) (K : Nat) (C : Nat) (nt : Nat) (hOI : OI (O 0) N K C nt) (sz : Nat) : Met l yX9_answeredShare wsX9_answeredShare ({ frames := 1, cells := 0, slots := 0, locals := 23 } : Room) (va_Pc [.ref (v 0)] (PS D T (WIN T v B O g ln un nx pl f0 f1 f2) sz)) (va_Qf (fun r9 (_ : Unit) => r9 = (shareI (cntC (O 0) 1 N) (nI N - cntC (O 0) 0 N))) (fun _ t => QS D T (va_A (WIN T v B O g ln un nx pl f0 f1 f2) sz) (WIN T v B O g ln un nx pl f0 f1 f2) t) (va_A (WIN T v B O g ln un nx pl f0 f1 f2) sz)) 0 0 (va_A (WIN T v B O g ln un nx pl f0 f1 f2) sz) := by
  refine metSf (cc := cX9_answeredShare) (maxL := 2) (by decide) rfl (Nat.le_of_ble_eq_true rfl) ?_
  intro p e s m args below meth c Q ls A hx hb hml hown hts hP hK hD hA hS hl hret
  have hown : s.vm.findClass RX9 = some m.cls := hown
  have hl : lv_has ls 2 [(0, .ref (v 0))] := hl
  have i3 : ∀ w ∈ wsX30, w ∈ wsX9_answeredShare := by decide +kernel
  have i5 : ∀ w ∈ wsX50, w ∈ wsX9_answeredShare := by decide +kernel
  have i9 : ∀ w ∈ wsX90, w ∈ wsX9_answeredShare := by decide +kernel
  have w1 := hts (Cond.fieldLink RX9 19 "MoonComplaintWindow" "office" "LMoonComplaintWindow$Office;") (List.mem_of_getElem? (i := 1) rfl)
  have w2 := hts (Cond.fieldLink RX9 107 "MoonComplaintWindow$Office" "pile" "LMoonComplaintWindow$Pile;") (List.mem_of_getElem? (i := 2) rfl)
  have w3 := hts (Cond.fieldLink RX9 111 "MoonComplaintWindow$Pile" "total" "I") (List.mem_of_getElem? (i := 3) rfl)
  obtain ⟨hN, hN2, hKn, hK2, hCn, hC1, hC2, hn, hnt, hSK⟩ := id hOI
  have hca := cntC_nat (O 0) 1 hN2
  have hcd := doneC_nat (O 0) hN2
  refine lv_aload_n hx hb dX9_answeredShare_0 rfl (lv_at hl 0 rfl) ?_
  refine va_get (D := D) (ci := 9) (v := .ref ((B 0) 0)) (C := RX9) (T := TX9) (N := 6) hx hb hts i9 hown hK hP 0 rfl rfl 1 (by decide) w1 (fun _ h9 => h9) rfl dX9_answeredShare_1 ?_
  refine va_get (D := D) (ci := 3) (v := .ref ((B 0) 6)) (C := RX3) (T := TX3) (N := 4) hx hb hts i3 hown hK hP (14 * 0 + 0 + 11) (WIN_get (by decide) (by decide) rfl) rfl 3 (by decide) w2 (fun _ h9 => h9) rfl dX9_answeredShare_4 ?_
  refine va_get (D := D) (ci := 5) (v := .int ((O 0) 0 7)) (C := RX5) (T := TX5) (N := 8) hx hb hts i5 hown hK hP (14 * 0 + 6 + 11) (WIN_get (by decide) (by decide) rfl) rfl 0 (by decide) w3 (fun _ h9 => h9) rfl dX9_answeredShare_7 ?_
  refine endI (r := nI N) (hN) ?_
  refine lv_aload_n hx hb dX9_answeredShare_10 rfl (lv_at hl 0 rfl) ?_
  refine va_get (D := D) (ci := 9) (v := .ref ((B 0) 0)) (C := RX9) (T := TX9) (N := 6) hx hb hts i9 hown hK hP 0 rfl rfl 1 (by decide) w1 (fun _ h9 => h9) rfl dX9_answeredShare_11 ?_
  refine va_get (D := D) (ci := 3) (v := .ref ((B 0) 6)) (C := RX3) (T := TX3) (N := 4) hx hb hts i3 hown hK hP (14 * 0 + 0 + 11) (WIN_get (by decide) (by decide) rfl) rfl 3 (by decide) w2 (fun _ h9 => h9) rfl dX9_answeredShare_14 ?_
  refine lv_iconst (v := 0) hx hb dX9_answeredShare_17 (by decide) ?_
  refine rdV (As := [.int (0)]) (rest := [.int (nI N)]) ⟨hx, hb, hml, hown, hts⟩ (c_X5_countInState l D T (B 0) (O 0) 0 N hN hN2) (cwV 1 hts gX9_answeredShare_X5_countInState rfl rfl rfl (by decide +kernel) ⟨Nat.le_of_ble_eq_true rfl, Nat.le_of_ble_eq_true rfl⟩) hK ((WIN_off (j := 0) (by decide) (O 0)).subP hP) 6 rfl rfl rfl hl.1 rfl (Nat.le_of_ble_eq_true rfl) ⟨Nat.zero_le _, Nat.zero_le _⟩ dX9_answeredShare_18 ?_
  refine lv_isub hx hb dX9_answeredShare_21 ?_
  refine lv_istore_n (lv' := [(1, .int ((nI N) - (cntI (fun k => decide ((O 0) 8 k = 0)) N 0 0))), (0, .ref (v 0))]) hx hb dX9_answeredShare_22 rfl hl (by decide) rfl (fun ls hl => ?_)
  refine lv_iload_n hx hb dX9_answeredShare_23 rfl (lv_at hl 0 rfl) ?_
  refine lv_if_ne (tgt := 29) hx hb dX9_answeredShare_24 (by decide) (fun c24 => ?_) (fun c24 => ?_)
  ·
    have c24 : ¬ (nI N - cntC (O 0) 0 N) = 0 := c24
    refine lv_aload_n hx hb dX9_answeredShare_29 rfl (lv_at hl 1 rfl) ?_
    refine va_get (D := D) (ci := 9) (v := .ref ((B 0) 0)) (C := RX9) (T := TX9) (N := 6) hx hb hts i9 hown hK hP 0 rfl rfl 1 (by decide) w1 (fun _ h9 => h9) rfl dX9_answeredShare_30 ?_
    refine va_get (D := D) (ci := 3) (v := .ref ((B 0) 6)) (C := RX3) (T := TX3) (N := 4) hx hb hts i3 hown hK hP (14 * 0 + 0 + 11) (WIN_get (by decide) (by decide) rfl) rfl 3 (by decide) w2 (fun _ h9 => h9) rfl dX9_answeredShare_33 ?_
    refine lv_iconst (v := 1) hx hb dX9_answeredShare_36 (by decide) ?_
    refine rdV (As := [.int (1)]) (rest := []) ⟨hx, hb, hml, hown, hts⟩ (c_X5_countInState l D T (B 0) (O 0) 1 N hN hN2) (cwV 1 hts gX9_answeredShare_X5_countInState rfl rfl rfl (by decide +kernel) ⟨Nat.le_of_ble_eq_true rfl, Nat.le_of_ble_eq_true rfl⟩) hK ((WIN_off (j := 0) (by decide) (O 0)).subP hP) 6 rfl rfl rfl hl.1 rfl (Nat.le_of_ble_eq_true rfl) ⟨Nat.zero_le _, Nat.zero_le _⟩ dX9_answeredShare_37 ?_
    refine lv_i2f hx hb dX9_answeredShare_40 ?_
    refine lv_iload_n hx hb dX9_answeredShare_41 rfl (lv_at hl 0 rfl) ?_
    refine lv_i2f hx hb dX9_answeredShare_42 ?_
    refine lv_fdiv hx hb dX9_answeredShare_43 (fdiv_ok hca hcd c24) ?_
    refine endF (r := shareI (cntC (O 0) 1 N) (nI N - cntC (O 0) 0 N)) (by first | exact (if_pos c24).symm | exact (if_neg c24).symm) ?_
    exact hret _ _ _ _ dX9_answeredShare_44 hP hD hS
  ·
    have c24 : (nI N - cntC (O 0) 0 N) = 0 := c24
    refine lv_fconst0 hx hb dX9_answeredShare_27 ?_
    refine endF (r := shareI (cntC (O 0) 1 N) (nI N - cntC (O 0) 0 N)) (by first | exact (if_pos c24).symm | exact (if_neg c24).symm) ?_
    exact hret _ _ _ _ dX9_answeredShare_28 hP hD hS

