set_option maxHeartbeats 4000000 in
set_option maxRecDepth 100000 in
theorem c_X9_meanWait (l : Launch) (D : va_G) (T : Nat → ClassId) (v : Nat → Nat) (B : Nat → Nat → Nat) (O : Nat → Nat → Nat → Int32) (g : CSt) (ln un nx pl : Nat) (f0 f1 f2 : Nat → Int32) (N : Nat) (K : Nat) (C : Nat) (nt : Nat) (hOI : OI (O 0) N K C nt) (sz : Nat) : Met l yX9_meanWait wsX9_meanWait ({ frames := 1, cells := 0, slots := 0, locals := 23 } : Room) (va_Pc [.ref (v 0)] (PS D T (WIN T v B O g ln un nx pl f0 f1 f2) sz)) (va_Qd (fun r9 (_ : Unit) => r9 = (meanI (sumI (fun k => decide ((O 0) 8 k = 1)) (fun k => (O 0) 9 k - (O 0) 7 k) N 0 0) (cntC (O 0) 1 N))) (fun _ t => QS D T (va_A (WIN T v B O g ln un nx pl f0 f1 f2) sz) (WIN T v B O g ln un nx pl f0 f1 f2) t) (va_A (WIN T v B O g ln un nx pl f0 f1 f2) sz)) 0 0 (va_A (WIN T v B O g ln un nx pl f0 f1 f2) sz) := by
  refine metSd (cc := cX9_meanWait) (maxL := 2) (by decide) rfl (Nat.le_of_ble_eq_true rfl) ?_
  intro p e s m args below meth c Q ls A hx hb hml hown hts hP hK hD hA hS hl hret
  have hown : s.vm.findClass RX9 = some m.cls := hown
  have hl : lv_has ls 2 [(0, .ref (v 0))] := hl
  have i3 : ∀ w ∈ wsX30, w ∈ wsX9_meanWait := by decide +kernel
  have i9 : ∀ w ∈ wsX90, w ∈ wsX9_meanWait := by decide +kernel
  have w1 := hts (Cond.fieldLink RX9 19 "MoonComplaintWindow" "office" "LMoonComplaintWindow$Office;") (List.mem_of_getElem? (i := 1) rfl)
  have w2 := hts (Cond.fieldLink RX9 107 "MoonComplaintWindow$Office" "pile" "LMoonComplaintWindow$Pile;") (List.mem_of_getElem? (i := 2) rfl)
  obtain ⟨hN, hN2, hKn, hK2, hCn, hC1, hC2, hn, hnt, hSK⟩ := id hOI
  refine lv_aload_n hx hb dX9_meanWait_0 rfl (lv_at hl 0 rfl) ?_
  refine va_get (D := D) (ci := 9) (v := .ref ((B 0) 0)) (C := RX9) (T := TX9) (N := 6) hx hb hts i9 hown hK hP 0 rfl rfl 1 (by decide) w1 (fun _ h9 => h9) rfl dX9_meanWait_1 ?_
  refine va_get (D := D) (ci := 3) (v := .ref ((B 0) 6)) (C := RX3) (T := TX3) (N := 4) hx hb hts i3 hown hK hP (14 * 0 + 0 + 11) (WIN_get (by decide) (by decide) rfl) rfl 3 (by decide) w2 (fun _ h9 => h9) rfl dX9_meanWait_4 ?_
  refine lv_iconst (v := 1) hx hb dX9_meanWait_7 (by decide) ?_
  refine rdV (As := [.int (1)]) (rest := []) ⟨hx, hb, hml, hown, hts⟩ (c_X5_countInState l D T (B 0) (O 0) 1 N hN hN2) (cwV 1 hts gX9_meanWait_X5_countInState rfl rfl rfl (by decide +kernel) ⟨Nat.le_of_ble_eq_true rfl, Nat.le_of_ble_eq_true rfl⟩) hK ((WIN_off (j := 0) (by decide) (O 0)).subP hP) 6 rfl rfl rfl hl.1 rfl (Nat.le_of_ble_eq_true rfl) ⟨Nat.zero_le _, Nat.zero_le _⟩ dX9_meanWait_8 ?_
  refine lv_istore_n (lv' := [(1, .int (cntI (fun k => decide ((O 0) 8 k = 1)) N 0 0)), (0, .ref (v 0))]) hx hb dX9_meanWait_11 rfl hl (by decide) rfl (fun ls hl => ?_)
  refine lv_iload_n hx hb dX9_meanWait_12 rfl (lv_at hl 0 rfl) ?_
  refine lv_if_ne (tgt := 18) hx hb dX9_meanWait_13 (by decide) (fun c13 => ?_) (fun c13 => ?_)
  ·
    have c13 : ¬ cntC (O 0) 1 N = 0 := c13
    refine lv_aload_n hx hb dX9_meanWait_18 rfl (lv_at hl 1 rfl) ?_
    refine va_get (D := D) (ci := 9) (v := .ref ((B 0) 0)) (C := RX9) (T := TX9) (N := 6) hx hb hts i9 hown hK hP 0 rfl rfl 1 (by decide) w1 (fun _ h9 => h9) rfl dX9_meanWait_19 ?_
    refine va_get (D := D) (ci := 3) (v := .ref ((B 0) 6)) (C := RX3) (T := TX3) (N := 4) hx hb hts i3 hown hK hP (14 * 0 + 0 + 11) (WIN_get (by decide) (by decide) rfl) rfl 3 (by decide) w2 (fun _ h9 => h9) rfl dX9_meanWait_22 ?_
    refine rdV (As := []) (rest := []) ⟨hx, hb, hml, hown, hts⟩ (c_X5_sumAnsweredWait l D T (B 0) (O 0) N hN hN2) (cwV 0 hts gX9_meanWait_X5_sumAnsweredWait rfl rfl rfl (by decide +kernel) ⟨Nat.le_of_ble_eq_true rfl, Nat.le_of_ble_eq_true rfl⟩) hK ((WIN_off (j := 0) (by decide) (O 0)).subP hP) 6 rfl rfl rfl hl.1 rfl (Nat.le_of_ble_eq_true rfl) ⟨Nat.zero_le _, Nat.zero_le _⟩ dX9_meanWait_25 ?_
    refine lv_i2d hx hb dX9_meanWait_28 ?_
    refine lv_iload_n hx hb dX9_meanWait_29 rfl (lv_at hl 0 rfl) ?_
    refine lv_i2d hx hb dX9_meanWait_30 ?_
    refine lv_ddiv hx hb dX9_meanWait_31 (ddiv_ok _ _ c13) ?_
    refine endD (r := meanI (sumI (fun k => decide ((O 0) 8 k = 1)) (fun k => (O 0) 9 k - (O 0) 7 k) N 0 0) (cntC (O 0) 1 N)) (by first | exact (if_pos c13).symm | exact (if_neg c13).symm) ?_
    exact hret _ _ _ _ dX9_meanWait_32 hP hD hS
  ·
    have c13 : cntC (O 0) 1 N = 0 := c13
    refine lv_dconst0 hx hb dX9_meanWait_16 ?_
    refine endD (r := meanI (sumI (fun k => decide ((O 0) 8 k = 1)) (fun k => (O 0) 9 k - (O 0) 7 k) N 0 0) (cntC (O 0) 1 N)) (by first | exact (if_pos c13).symm | exact (if_neg c13).symm) ?_
    exact hret _ _ _ _ dX9_meanWait_17 hP hD hS

set_option maxHeartbeats 4000000 in
set_option maxRecDepth 100000 in
theorem c_X9_answeredShare (l : Launch) (D : va_G) (T : Nat → ClassId) (v : Nat → Nat) (B : Nat → Nat → Nat) (O : Nat → Nat → Nat → Int32) (g : CSt) (ln un nx pl : Nat) (f0 f1 f2 : Nat → Int32) (N : Nat) (K : Nat) (C : Nat) (nt : Nat) (hOI : OI (O 0) N K C nt) (sz : Nat) : Met l yX9_answeredShare wsX9_answeredShare ({ frames := 1, cells := 0, slots := 0, locals := 23 } : Room) (va_Pc [.ref (v 0)] (PS D T (WIN T v B O g ln un nx pl f0 f1 f2) sz)) (va_Qf (fun r9 (_ : Unit) => r9 = (shareI (cntC (O 0) 1 N) (nI N - cntC (O 0) 0 N))) (fun _ t => QS D T (va_A (WIN T v B O g ln un nx pl f0 f1 f2) sz) (WIN T v B O g ln un nx pl f0 f1 f2) t) (va_A (WIN T v B O g ln un nx pl f0 f1 f2) sz)) 0 0 (va_A (WIN T v B O g ln un nx pl f0 f1 f2) sz) := by
  refine metSf (cc := cX9_answeredShare) (maxL := 2) (by decide) rfl (Nat.le_of_ble_eq_true rfl) ?_
  intro p e s m args below meth c Q ls A hx hb hml hown hts hP hK hD hA hS hl hret
  have hown : s.vm.findClass RX9 = some m.cls := hown
  have hl : lv_has ls 2 [(0, .ref (v 0))] := hl
  have i3 : ∀ w ∈ wsX30, w ∈ wsX9_answeredShare := by decide +kernel
  have i5 : ∀ w ∈ wsX50, w ∈ wsX9_answeredShare := by decide +kernel
  have i9 : ∀ w ∈ wsX90, w ∈ wsX9_answeredShare := by decide +kernel
  have w1 := hts (Cond.fieldLink RX9 19 "MoonComplaintWindow" "office" "LMoonComplaintWindow$Office;") (List.mem_of_getElem? (i := 1) rfl)
  have w2 := hts (Cond.fieldLink RX9 107 "MoonComplaintWindow$Office" "pile" "LMoonComplaintWindow$Pile;") (List.mem_of_getElem? (i := 2) rfl)
  have w3 := hts (Cond.fieldLink RX9 111 "MoonComplaintWindow$Pile" "total" "I") (List.mem_of_getElem? (i := 3) rfl)
  obtain ⟨hN, hN2, hKn, hK2, hCn, hC1, hC2, hn, hnt, hSK⟩ := id hOI
  have hca := cntC_nat (O 0) 1 hN2
  have hcd := doneC_nat (O 0) hN2
  refine lv_aload_n hx hb dX9_answeredShare_0 rfl (lv_at hl 0 rfl) ?_
  refine va_get (D := D) (ci := 9) (v := .ref ((B 0) 0)) (C := RX9) (T := TX9) (N := 6) hx hb hts i9 hown hK hP 0 rfl rfl 1 (by decide) w1 (fun _ h9 => h9) rfl dX9_answeredShare_1 ?_
  refine va_get (D := D) (ci := 3) (v := .ref ((B 0) 6)) (C := RX3) (T := TX3) (N := 4) hx hb hts i3 hown hK hP (14 * 0 + 0 + 11) (WIN_get (by decide) (by decide) rfl) rfl 3 (by decide) w2 (fun _ h9 => h9) rfl dX9_answeredShare_4 ?_
  refine va_get (D := D) (ci := 5) (v := .int ((O 0) 0 7)) (C := RX5) (T := TX5) (N := 8) hx hb hts i5 hown hK hP (14 * 0 + 6 + 11) (WIN_get (by decide) (by decide) rfl) rfl 0 (by decide) w3 (fun _ h9 => h9) rfl dX9_answeredShare_7 ?_
  refine endI (r := nI N) (hN) ?_
  refine lv_aload_n hx hb dX9_answeredShare_10 rfl (lv_at hl 0 rfl) ?_
  refine va_get (D := D) (ci := 9) (v := .ref ((B 0) 0)) (C := RX9) (T := TX9) (N := 6) hx hb hts i9 hown hK hP 0 rfl rfl 1 (by decide) w1 (fun _ h9 => h9) rfl dX9_answeredShare_11 ?_
  refine va_get (D := D) (ci := 3) (v := .ref ((B 0) 6)) (C := RX3) (T := TX3) (N := 4) hx hb hts i3 hown hK hP (14 * 0 + 0 + 11) (WIN_get (by decide) (by decide) rfl) rfl 3 (by decide) w2 (fun _ h9 => h9) rfl dX9_answeredShare_14 ?_
  refine lv_iconst (v := 0) hx hb dX9_answeredShare_17 (by decide) ?_
  refine rdV (As := [.int (0)]) (rest := [.int (nI N)]) ⟨hx, hb, hml, hown, hts⟩ (c_X5_countInState l D T (B 0) (O 0) 0 N hN hN2) (cwV 1 hts gX9_answeredShare_X5_countInState rfl rfl rfl (by decide +kernel) ⟨Nat.le_of_ble_eq_true rfl, Nat.le_of_ble_eq_true rfl⟩) hK ((WIN_off (j := 0) (by decide) (O 0)).subP hP) 6 rfl rfl rfl hl.1 rfl (Nat.le_of_ble_eq_true rfl) ⟨Nat.zero_le _, Nat.zero_le _⟩ dX9_answeredShare_18 ?_
  refine lv_isub hx hb dX9_answeredShare_21 ?_
  refine lv_istore_n (lv' := [(1, .int ((nI N) - (cntI (fun k => decide ((O 0) 8 k = 0)) N 0 0))), (0, .ref (v 0))]) hx hb dX9_answeredShare_22 rfl hl (by decide) rfl (fun ls hl => ?_)
  refine lv_iload_n hx hb dX9_answeredShare_23 rfl (lv_at hl 0 rfl) ?_
  refine lv_if_ne (tgt := 29) hx hb dX9_answeredShare_24 (by decide) (fun c24 => ?_) (fun c24 => ?_)
  ·
    have c24 : ¬ (nI N - cntC (O 0) 0 N) = 0 := c24
    refine lv_aload_n hx hb dX9_answeredShare_29 rfl (lv_at hl 1 rfl) ?_
    refine va_get (D := D) (ci := 9) (v := .ref ((B 0) 0)) (C := RX9) (T := TX9) (N := 6) hx hb hts i9 hown hK hP 0 rfl rfl 1 (by decide) w1 (fun _ h9 => h9) rfl dX9_answeredShare_30 ?_
    refine va_get (D := D) (ci := 3) (v := .ref ((B 0) 6)) (C := RX3) (T := TX3) (N := 4) hx hb hts i3 hown hK hP (14 * 0 + 0 + 11) (WIN_get (by decide) (by decide) rfl) rfl 3 (by decide) w2 (fun _ h9 => h9) rfl dX9_answeredShare_33 ?_
    refine lv_iconst (v := 1) hx hb dX9_answeredShare_36 (by decide) ?_
    refine rdV (As := [.int (1)]) (rest := []) ⟨hx, hb, hml, hown, hts⟩ (c_X5_countInState l D T (B 0) (O 0) 1 N hN hN2) (cwV 1 hts gX9_answeredShare_X5_countInState rfl rfl rfl (by decide +kernel) ⟨Nat.le_of_ble_eq_true rfl, Nat.le_of_ble_eq_true rfl⟩) hK ((WIN_off (j := 0) (by decide) (O 0)).subP hP) 6 rfl rfl rfl hl.1 rfl (Nat.le_of_ble_eq_true rfl) ⟨Nat.zero_le _, Nat.zero_le _⟩ dX9_answeredShare_37 ?_
    refine lv_i2f hx hb dX9_answeredShare_40 ?_
    refine lv_iload_n hx hb dX9_answeredShare_41 rfl (lv_at hl 0 rfl) ?_
    refine lv_i2f hx hb dX9_answeredShare_42 ?_
    refine lv_fdiv hx hb dX9_answeredShare_43 (fdiv_ok hca hcd c24) ?_
    refine endF (r := shareI (cntC (O 0) 1 N) (nI N - cntC (O 0) 0 N)) (by first | exact (if_pos c24).symm | exact (if_neg c24).symm) ?_
    exact hret _ _ _ _ dX9_answeredShare_44 hP hD hS
  ·
    have c24 : (nI N - cntC (O 0) 0 N) = 0 := c24
    refine lv_fconst0 hx hb dX9_answeredShare_27 ?_
    refine endF (r := shareI (cntC (O 0) 1 N) (nI N - cntC (O 0) 0 N)) (by first | exact (if_pos c24).symm | exact (if_neg c24).symm) ?_
    exact hret _ _ _ _ dX9_answeredShare_28 hP hD hS

set_option maxHeartbeats 4000000 in
set_option maxRecDepth 100000 in
theorem c_X10_meanWait (l : Launch) (D : va_G) (T : Nat → ClassId) (b : Nat → Nat) (y : Nat → Nat → Int32) (w : Int64) (N : Nat) (K : Nat) (C : Nat) (nt : Nat) (hRI : RI (y 1) N K C nt) (sz : Nat) : Met l yX10_meanWait wsX10_meanWait ({ frames := 3, cells := 0, slots := 0, locals := 65 } : Room) (va_Pc [.ref (b 0)] (PS D T (REF T b y w) sz)) (va_Qd (fun r9 (_ : Unit) => r9 = (meanI (sumI (fun k => decide (y 1 (34 + 7 * k + 4) = 1)) (fun k => y 1 (34 + 7 * k + 5) - y 1 (34 + 7 * k + 3)) N 0 0) (cntR (y 1) 1 N))) (fun _ t => QS D T (va_A (REF T b y w) sz) (REF T b (yS y 3 0) w) t) (va_A (REF T b y w) sz)) 0 0 (va_A (REF T b y w) sz) := by
  refine metSd (cc := cX10_meanWait) (maxL := 4) (by decide) rfl (Nat.le_of_ble_eq_true rfl) ?_
  intro p e s m args below meth c Q ls A hx hb hml hown hts hP hK hD hA hS hl hret
  have hown : s.vm.findClass RX10 = some m.cls := hown
  have hl : lv_has ls 4 [(0, .ref (b 0))] := hl
  have i10 : ∀ w ∈ wsX100, w ∈ wsX10_meanWait := by decide +kernel
  have w1 := hts (Cond.fieldLink RX10 51 "MoonComplaintWindowModel" "thrown" "I") (List.mem_of_getElem? (i := 1) rfl)
  have w2 := hts (Cond.fieldLink RX10 7 "MoonComplaintWindowModel" "now" "[I") (List.mem_of_getElem? (i := 2) rfl)
  obtain ⟨hN, hN2, hKn, hK2, hC, hC1, hC2, hn, hnt, hSo, hSK⟩ := id hRI
  refine lv_aload_n hx hb dX10_meanWait_0 rfl (lv_at hl 0 rfl) ?_
  refine lv_iconst (v := 0) hx hb dX10_meanWait_1 (by decide) ?_
  refine va_put (D := D) (ci := 10) (v := .int (0)) (ty := .int) (C := RX10) (T := TX10) (N := 19) hx hb hts i10 tyX10 tyX10_ok nmX10 hown hK hP hD hS 0 rfl rfl 10 (by decide) w1 (fun _ h9 => h9) rfl (by decide +kernel) rfl rfl (Nat.le_of_ble_eq_true rfl) dX10_meanWait_2 (fun H locs hP hD hS => ?_)
  have hP : va_P D vwCl (REF T b (yS y 3 0) w) H := hP
  have hD : va_D A (REF T b (yS y 3 0) w) := hD
  refine lv_iconst (v := 0) hx hb dX10_meanWait_5 (by decide) ?_
  refine lv_istore_n (lv' := [(1, .int (0)), (0, .ref (b 0))]) hx hb dX10_meanWait_6 rfl hl (by decide) rfl (fun ls hl => ?_)
  refine lv_aload_n hx hb dX10_meanWait_7 rfl (lv_at hl 1 rfl) ?_
  refine va_get (D := D) (ci := 10) (v := .ref (b 1)) (C := RX10) (T := TX10) (N := 19) hx hb hts i10 hown hK hP 0 rfl rfl 0 (by decide) w2 (fun _ h9 => h9) rfl dX10_meanWait_8 ?_
  refine lv_iconst (v := 1) hx hb dX10_meanWait_11 (by decide) ?_
  refine rdS (As := [.ref (b 1), .int (1)]) (rest := []) ⟨hx, hb, hml, hown, hts⟩ (c_X10_countOf l D T (b 1) (y 1) 1 N hN hN2) (va_cwS 2 hts gX10_meanWait_X10_countOf rfl rfl rfl (by decide +kernel) ⟨Nat.le_of_ble_eq_true rfl, Nat.le_of_ble_eq_true rfl⟩) hK (hP.sub [1] rfl) rfl hl.1 rfl (Nat.le_of_ble_eq_true rfl) ⟨Nat.zero_le _, Nat.zero_le _⟩ dX10_meanWait_12 ?_
  refine lv_istore_n (lv' := [(2, .int (cntR (y 1) 1 N)), (1, .int (0)), (0, .ref (b 0))]) hx hb dX10_meanWait_15 rfl hl (by decide) rfl (fun ls hl => ?_)
  refine lv_iconst (v := 0) hx hb dX10_meanWait_16 (by decide) ?_
  refine lv_istore_n (lv' := [(3, .int (0)), (2, .int (cntR (y 1) 1 N)), (1, .int (0)), (0, .ref (b 0))]) hx hb dX10_meanWait_17 rfl hl (by decide) rfl (fun ls hl => ?_)
  have L18 : ∀ (n9 : Nat) (k : Nat) (x : Int32), (N - k) < n9 → (k ≤ N) → (sumI (fun k => decide (y 1 (34 + 7 * k + 4) = 1)) (fun k => y 1 (34 + 7 * k + 5) - y 1 (34 + 7 * k + 3)) (N - k) k x = sumI (fun k => decide (y 1 (34 + 7 * k + 4) = 1)) (fun k => y 1 (34 + 7 * k + 5) - y 1 (34 + 7 * k + 3)) N 0 0) → ∀ (H : Heap) (locs : List Loc) (ls : Array Slot), va_P D vwCl (REF T b (yS y 3 0) w) H → va_D A (REF T b (yS y 3 0) w) → va_S A s.heap H locs → lv_has ls 4 [(3, .int (nI k)), (2, .int (cntR (y 1) 1 N)), (1, .int (x)), (0, .ref (b 0))] → W p l e ({ frames := 3, cells := 0, slots := 0, locals := 65 } : Room) s m args below meth c H locs 0 0 Q (F0 m 18 ls []) := by
    intro n9
    induction n9 with
    | zero => intro k x hm9; exact absurd hm9 (Nat.not_lt_zero _)
    | succ n9 ih =>
      intro k x hm9 hk9 hR H locs ls hP hD hS hl
      refine lv_iload_n hx hb dX10_meanWait_18 rfl (lv_at hl 0 rfl) ?_
      refine lv_aload_n hx hb dX10_meanWait_19 rfl (lv_at hl 3 rfl) ?_
      refine va_get (D := D) (ci := 10) (v := .ref (b 1)) (C := RX10) (T := TX10) (N := 19) hx hb hts i10 hown hK hP 0 rfl rfl 0 (by decide) w2 (fun _ h9 => h9) rfl dX10_meanWait_20 ?_
      refine lv_bipush (v := 6) hx hb dX10_meanWait_23 (by decide) ?_
      refine aldI hx hb hK hP 1 0 rfl rfl (6) rfl (by omega) (by decide) dX10_meanWait_25 ?_
      refine endI (r := nI N) (hN) ?_
      refine lv_icmp_ge (tgt := 60) hx hb dX10_meanWait_26 (by decide) (fun c26 => ?_) (fun c26 => ?_)
      ·
        have c26 : N ≤ k := (nI_leI (a := N) (b := k) (by omega) (by omega)).mp c26
        rw [sumI_done (by omega)] at hR
        refine lv_iload_n hx hb dX10_meanWait_60 rfl (lv_at hl 1 rfl) ?_
        refine lv_if_ne (tgt := 66) hx hb dX10_meanWait_61 (by decide) (fun c61 => ?_) (fun c61 => ?_)
        ·
          have c61 : ¬ cntR (y 1) 1 N = 0 := c61
          refine lv_iload_n hx hb dX10_meanWait_66 rfl (lv_at hl 2 rfl) ?_
          refine lv_i2d hx hb dX10_meanWait_67 ?_
          refine lv_iload_n hx hb dX10_meanWait_68 rfl (lv_at hl 1 rfl) ?_
          refine lv_i2d hx hb dX10_meanWait_69 ?_
          refine lv_ddiv hx hb dX10_meanWait_70 (ddiv_ok _ _ c61) ?_
          refine endD (r := meanI (sumI (fun k => decide (y 1 (34 + 7 * k + 4) = 1)) (fun k => y 1 (34 + 7 * k + 5) - y 1 (34 + 7 * k + 3)) N 0 0) (cntR (y 1) 1 N)) (by rw [← hR]; first | exact (if_pos c61).symm | exact (if_neg c61).symm) ?_
          exact hret _ _ _ _ dX10_meanWait_71 hP hD hS
        ·
          have c61 : cntR (y 1) 1 N = 0 := c61
          refine lv_dconst0 hx hb dX10_meanWait_64 ?_
          refine endD (r := meanI (sumI (fun k => decide (y 1 (34 + 7 * k + 4) = 1)) (fun k => y 1 (34 + 7 * k + 5) - y 1 (34 + 7 * k + 3)) N 0 0) (cntR (y 1) 1 N)) (by rw [← hR]; first | exact (if_pos c61).symm | exact (if_neg c61).symm) ?_
          exact hret _ _ _ _ dX10_meanWait_65 hP hD hS
      ·
        have c26 : ¬ N ≤ k := fun h9 => c26 ((nI_leI (a := N) (b := k) (by omega) (by omega)).mpr h9)
        refine lv_aload_n hx hb dX10_meanWait_29 rfl (lv_at hl 3 rfl) ?_
        refine va_get (D := D) (ci := 10) (v := .ref (b 1)) (C := RX10) (T := TX10) (N := 19) hx hb hts i10 hown hK hP 0 rfl rfl 0 (by decide) w2 (fun _ h9 => h9) rfl dX10_meanWait_30 ?_
        refine lv_iload_n hx hb dX10_meanWait_33 rfl (lv_at hl 0 rfl) ?_
        refine lv_iconst (v := 4) hx hb dX10_meanWait_34 (by decide) ?_
        refine rdT (As := [.int (nI k), .int (4)]) (rest := [.ref (b 1)]) ⟨hx, hb, hml, hown, hts⟩ (c_X10_complaintAt l D T k 4 ) (va_cwS 2 hts gX10_meanWait_X10_complaintAt rfl rfl rfl (by decide +kernel) ⟨Nat.le_of_ble_eq_true rfl, Nat.le_of_ble_eq_true rfl⟩) rfl hl.1 rfl (Nat.le_of_ble_eq_true rfl) ⟨Nat.zero_le _, Nat.zero_le _⟩ dX10_meanWait_35 ?_
        refine aldI hx hb hK hP 1 0 rfl rfl (34 + 7 * k + 4) rfl (by omega) (by decide) dX10_meanWait_38 ?_
        refine lv_iconst (v := 1) hx hb dX10_meanWait_39 (by decide) ?_
        refine lv_icmp_ne (tgt := 54) hx hb dX10_meanWait_40 (by decide) (fun c40 => ?_) (fun c40 => ?_)
        ·
          have c40 : ¬ y 1 (34 + 7 * k + 4) = 1 := c40
          refine lv_iinc (v := nI (k + 1)) (lv' := [(3, .int (nI (k + 1))), (2, .int (cntR (y 1) 1 N)), (1, .int (x)), (0, .ref (b 0))]) hx hb dX10_meanWait_54 hl (k := 0) rfl (nI_1 _) (by decide) rfl (fun ls hl => ?_)
          refine lv_goto (tgt := 18) hx hb dX10_meanWait_57 (by decide) ?_
          exact ih (k + 1) x (by omega) (by omega) (by rw [sumI_step (by omega)] at hR; first | (rw [if_neg (by simp [c40])] at hR; exact hR) | (rw [if_pos (by simp [c40])] at hR; exact hR)) _ _ _ hP hD hS (lv_sub hl [0, 1, 2, 3] rfl)
        ·
          have c40 : y 1 (34 + 7 * k + 4) = 1 := c40
          refine lv_iload_n hx hb dX10_meanWait_43 rfl (lv_at hl 2 rfl) ?_
          refine lv_aload_n hx hb dX10_meanWait_44 rfl (lv_at hl 3 rfl) ?_
          refine va_get (D := D) (ci := 10) (v := .ref (b 1)) (C := RX10) (T := TX10) (N := 19) hx hb hts i10 hown hK hP 0 rfl rfl 0 (by decide) w2 (fun _ h9 => h9) rfl dX10_meanWait_45 ?_
          refine lv_iload_n hx hb dX10_meanWait_48 rfl (lv_at hl 0 rfl) ?_
          refine rdS (As := [.ref (b 1), .int (nI k)]) (rest := [.int (x)]) ⟨hx, hb, hml, hown, hts⟩ (c_X10_waitOf l D T (b 1) (y 1) k (by first | omega | assumption | decide)) (va_cwS 2 hts gX10_meanWait_X10_waitOf rfl rfl rfl (by decide +kernel) ⟨Nat.le_of_ble_eq_true rfl, Nat.le_of_ble_eq_true rfl⟩) hK (hP.sub [1] rfl) rfl hl.1 rfl (Nat.le_of_ble_eq_true rfl) ⟨Nat.zero_le _, Nat.zero_le _⟩ dX10_meanWait_49 ?_
          refine lv_iadd hx hb dX10_meanWait_52 ?_
          refine lv_istore_n (lv' := [(1, .int (x + ((y 1) (34 + 7 * k + 5) - (y 1) (34 + 7 * k + 3)))), (3, .int (nI k)), (2, .int (cntR (y 1) 1 N)), (0, .ref (b 0))]) hx hb dX10_meanWait_53 rfl hl (by decide) rfl (fun ls hl => ?_)
          refine lv_iinc (v := nI (k + 1)) (lv' := [(3, .int (nI (k + 1))), (1, .int (x + ((y 1) (34 + 7 * k + 5) - (y 1) (34 + 7 * k + 3)))), (2, .int (cntR (y 1) 1 N)), (0, .ref (b 0))]) hx hb dX10_meanWait_54 hl (k := 1) rfl (nI_1 _) (by decide) rfl (fun ls hl => ?_)
          refine lv_goto (tgt := 18) hx hb dX10_meanWait_57 (by decide) ?_
          exact ih (k + 1) (x + ((y 1) (34 + 7 * k + 5) - (y 1) (34 + 7 * k + 3))) (by omega) (by omega) (by rw [sumI_step (by omega)] at hR; first | (rw [if_neg (by simp [c40])] at hR; exact hR) | (rw [if_pos (by simp [c40])] at hR; exact hR)) _ _ _ hP hD hS (lv_sub hl [0, 2, 1, 3] rfl)
  exact L18 _ 0 0 (Nat.lt_succ_self _) (by omega) (by rfl) _ _ _ hP hD hS (lv_sub hl [0, 1, 2, 3] rfl)

set_option maxHeartbeats 4000000 in
set_option maxRecDepth 100000 in
theorem c_X10_answeredShare (l : Launch) (D : va_G) (T : Nat → ClassId) (b : Nat → Nat) (y : Nat → Nat → Int32) (w : Int64) (N : Nat) (K : Nat) (C : Nat) (nt : Nat) (hRI : RI (y 1) N K C nt) (sz : Nat) : Met l yX10_answeredShare wsX10_answeredShare ({ frames := 3, cells := 0, slots := 0, locals := 65 } : Room) (va_Pc [.ref (b 0)] (PS D T (REF T b y w) sz)) (va_Qf (fun r9 (_ : Unit) => r9 = (shareI (cntR (y 1) 1 N) (nI N - cntR (y 1) 0 N))) (fun _ t => QS D T (va_A (REF T b y w) sz) (REF T b (yS y 3 0) w) t) (va_A (REF T b y w) sz)) 0 0 (va_A (REF T b y w) sz) := by
  refine metSf (cc := cX10_answeredShare) (maxL := 2) (by decide) rfl (Nat.le_of_ble_eq_true rfl) ?_
  intro p e s m args below meth c Q ls A hx hb hml hown hts hP hK hD hA hS hl hret
  have hown : s.vm.findClass RX10 = some m.cls := hown
  have hl : lv_has ls 2 [(0, .ref (b 0))] := hl
  have i10 : ∀ w ∈ wsX100, w ∈ wsX10_answeredShare := by decide +kernel
  have w1 := hts (Cond.fieldLink RX10 51 "MoonComplaintWindowModel" "thrown" "I") (List.mem_of_getElem? (i := 1) rfl)
  have w2 := hts (Cond.fieldLink RX10 7 "MoonComplaintWindowModel" "now" "[I") (List.mem_of_getElem? (i := 2) rfl)
  obtain ⟨hN, hN2, hKn, hK2, hC, hC1, hC2, hn, hnt, hSo, hSK⟩ := id hRI
  have hca := cntR_nat (y 1) 1 hN2
  have hcd := doneR_nat (y 1) hN2
  refine lv_aload_n hx hb dX10_answeredShare_0 rfl (lv_at hl 0 rfl) ?_
  refine lv_iconst (v := 0) hx hb dX10_answeredShare_1 (by decide) ?_
  refine va_put (D := D) (ci := 10) (v := .int (0)) (ty := .int) (C := RX10) (T := TX10) (N := 19) hx hb hts i10 tyX10 tyX10_ok nmX10 hown hK hP hD hS 0 rfl rfl 10 (by decide) w1 (fun _ h9 => h9) rfl (by decide +kernel) rfl rfl (Nat.le_of_ble_eq_true rfl) dX10_answeredShare_2 (fun H locs hP hD hS => ?_)
  have hP : va_P D vwCl (REF T b (yS y 3 0) w) H := hP
  have hD : va_D A (REF T b (yS y 3 0) w) := hD
  refine lv_aload_n hx hb dX10_answeredShare_5 rfl (lv_at hl 0 rfl) ?_
  refine va_get (D := D) (ci := 10) (v := .ref (b 1)) (C := RX10) (T := TX10) (N := 19) hx hb hts i10 hown hK hP 0 rfl rfl 0 (by decide) w2 (fun _ h9 => h9) rfl dX10_answeredShare_6 ?_
  refine lv_bipush (v := 6) hx hb dX10_answeredShare_9 (by decide) ?_
  refine aldI hx hb hK hP 1 0 rfl rfl (6) rfl (by omega) (by decide) dX10_answeredShare_11 ?_
  refine endI (r := nI N) (hN) ?_
  refine lv_aload_n hx hb dX10_answeredShare_12 rfl (lv_at hl 0 rfl) ?_
  refine va_get (D := D) (ci := 10) (v := .ref (b 1)) (C := RX10) (T := TX10) (N := 19) hx hb hts i10 hown hK hP 0 rfl rfl 0 (by decide) w2 (fun _ h9 => h9) rfl dX10_answeredShare_13 ?_
  refine lv_iconst (v := 0) hx hb dX10_answeredShare_16 (by decide) ?_
  refine rdS (As := [.ref (b 1), .int (0)]) (rest := [.int (nI N)]) ⟨hx, hb, hml, hown, hts⟩ (c_X10_countOf l D T (b 1) (y 1) 0 N hN hN2) (va_cwS 2 hts gX10_answeredShare_X10_countOf rfl rfl rfl (by decide +kernel) ⟨Nat.le_of_ble_eq_true rfl, Nat.le_of_ble_eq_true rfl⟩) hK (hP.sub [1] rfl) rfl hl.1 rfl (Nat.le_of_ble_eq_true rfl) ⟨Nat.zero_le _, Nat.zero_le _⟩ dX10_answeredShare_17 ?_
  refine lv_isub hx hb dX10_answeredShare_20 ?_
  refine lv_istore_n (lv' := [(1, .int ((nI N) - (cntR (y 1) 0 N))), (0, .ref (b 0))]) hx hb dX10_answeredShare_21 rfl hl (by decide) rfl (fun ls hl => ?_)
  refine lv_iload_n hx hb dX10_answeredShare_22 rfl (lv_at hl 0 rfl) ?_
  refine lv_if_ne (tgt := 28) hx hb dX10_answeredShare_23 (by decide) (fun c23 => ?_) (fun c23 => ?_)
  ·
    have c23 : ¬ (nI N - cntR (y 1) 0 N) = 0 := c23
    refine lv_aload_n hx hb dX10_answeredShare_28 rfl (lv_at hl 1 rfl) ?_
    refine va_get (D := D) (ci := 10) (v := .ref (b 1)) (C := RX10) (T := TX10) (N := 19) hx hb hts i10 hown hK hP 0 rfl rfl 0 (by decide) w2 (fun _ h9 => h9) rfl dX10_answeredShare_29 ?_
    refine lv_iconst (v := 1) hx hb dX10_answeredShare_32 (by decide) ?_
    refine rdS (As := [.ref (b 1), .int (1)]) (rest := []) ⟨hx, hb, hml, hown, hts⟩ (c_X10_countOf l D T (b 1) (y 1) 1 N hN hN2) (va_cwS 2 hts gX10_answeredShare_X10_countOf rfl rfl rfl (by decide +kernel) ⟨Nat.le_of_ble_eq_true rfl, Nat.le_of_ble_eq_true rfl⟩) hK (hP.sub [1] rfl) rfl hl.1 rfl (Nat.le_of_ble_eq_true rfl) ⟨Nat.zero_le _, Nat.zero_le _⟩ dX10_answeredShare_33 ?_
    refine lv_i2f hx hb dX10_answeredShare_36 ?_
    refine lv_iload_n hx hb dX10_answeredShare_37 rfl (lv_at hl 0 rfl) ?_
    refine lv_i2f hx hb dX10_answeredShare_38 ?_
    refine lv_fdiv hx hb dX10_answeredShare_39 (fdiv_ok hca hcd c23) ?_
    refine endF (r := shareI (cntR (y 1) 1 N) (nI N - cntR (y 1) 0 N)) (by first | exact (if_pos c23).symm | exact (if_neg c23).symm) ?_
    exact hret _ _ _ _ dX10_answeredShare_40 hP hD hS
  ·
    have c23 : (nI N - cntR (y 1) 0 N) = 0 := c23
    refine lv_fconst0 hx hb dX10_answeredShare_26 ?_
    refine endF (r := shareI (cntR (y 1) 1 N) (nI N - cntR (y 1) 0 N)) (by first | exact (if_pos c23).symm | exact (if_neg c23).symm) ?_
    exact hret _ _ _ _ dX10_answeredShare_27 hP hD hS
