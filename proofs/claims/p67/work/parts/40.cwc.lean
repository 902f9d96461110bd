set_option maxHeartbeats 4000000 in
set_option maxRecDepth 100000 in
theorem c_X1_putFour (l : Launch) (D : va_G) (T : Nat → ClassId) (v : Nat → Nat) (B : Nat → Nat → Nat) (O : Nat → Nat → Nat → Int32) (g : CSt) (ln un nx pl : Nat) (f0 f1 f2 : Nat → Int32) (z : Int32) (hL6 : ln + 4 ≤ 600) (sz : Nat) : Met l yX1_putFour wsX1_putFour ({ frames := 1, cells := 0, slots := 0, locals := 21 } : Room) (va_Pc [.ref (v 2), .int (z)] (PS D T (WIN T v B O g ln un nx pl f0 f1 f2) sz)) (va_Qv (fun (_ : Unit) => True) (fun _ t => QS D T (va_A (WIN T v B O g ln un nx pl f0 f1 f2) sz) (WIN T v B O g (ln + 4) un nx pl (put4 z ln f0) f1 f2) t) (va_A (WIN T v B O g ln un nx pl f0 f1 f2) sz)) 0 0 (va_A (WIN T v B O g ln un nx pl f0 f1 f2) sz) := by
  refine metSv (cc := cX1_putFour) (maxL := 2) (by decide) rfl (Nat.le_of_ble_eq_true rfl) ?_
  intro p e s m args below meth c Q ls A hx hb hml hown hts hP hK hD hA hS hl hret
  have hown : s.vm.findClass RX1 = some m.cls := hown
  have hl : lv_has ls 2 [(0, .ref (v 2)), (1, .int (z))] := hl
  refine lv_aload_n hx hb dX1_putFour_0 rfl (lv_at hl 0 rfl) ?_
  refine lv_iload_n hx hb dX1_putFour_1 rfl (lv_at hl 1 rfl) ?_
  refine lv_bipush (v := 24) hx hb dX1_putFour_2 (by decide) ?_
  refine lv_iushr (v := (z.toUInt32 >>> (Int32.toUInt32 24 &&& Int32.toUInt32 31)).toInt32) hx hb dX1_putFour_4 rfl ?_
  refine wrVv (As := [.int ((z.toUInt32 >>> (Int32.toUInt32 24 &&& Int32.toUInt32 31)).toInt32)]) (rest := []) ⟨hx, hb, hml, hown, hts⟩ (c_X1_put l D T v B O g ln un nx pl f0 f1 f2 ((z.toUInt32 >>> (Int32.toUInt32 24 &&& Int32.toUInt32 31)).toInt32) (by omega) _) (cwV 1 hts gX1_putFour_X1_put rfl rfl rfl (by decide +kernel) ⟨Nat.le_of_ble_eq_true rfl, Nat.le_of_ble_eq_true rfl⟩) (Foc.rfl _ _) hK hP hD hS hA 2 rfl rfl rfl hl.1 rfl (Nat.le_of_ble_eq_true rfl) ⟨Nat.zero_le _, Nat.zero_le _⟩ dX1_putFour_5 (fun H locs hP hD hS => ?_)
  have hP : va_P D vwCl (WIN T v B O g (ln + 1) un nx pl (va_up f0 ln (((z.toUInt32 >>> (Int32.toUInt32 24 &&& Int32.toUInt32 31)).toInt32) &&& 255)) f1 f2) H := hP
  have hD : va_D A (WIN T v B O g (ln + 1) un nx pl (va_up f0 ln (((z.toUInt32 >>> (Int32.toUInt32 24 &&& Int32.toUInt32 31)).toInt32) &&& 255)) f1 f2) := hD
  refine lv_aload_n hx hb dX1_putFour_8 rfl (lv_at hl 0 rfl) ?_
  refine lv_iload_n hx hb dX1_putFour_9 rfl (lv_at hl 1 rfl) ?_
  refine lv_bipush (v := 16) hx hb dX1_putFour_10 (by decide) ?_
  refine lv_iushr (v := (z.toUInt32 >>> (Int32.toUInt32 16 &&& Int32.toUInt32 31)).toInt32) hx hb dX1_putFour_12 rfl ?_
  refine wrVv (As := [.int ((z.toUInt32 >>> (Int32.toUInt32 16 &&& Int32.toUInt32 31)).toInt32)]) (rest := []) ⟨hx, hb, hml, hown, hts⟩ (c_X1_put l D T v B O g (ln + 1) un nx pl (va_up f0 ln (((z.toUInt32 >>> (Int32.toUInt32 24 &&& Int32.toUInt32 31)).toInt32) &&& 255)) f1 f2 ((z.toUInt32 >>> (Int32.toUInt32 16 &&& Int32.toUInt32 31)).toInt32) (by omega) _) (cwV 1 hts gX1_putFour_X1_put rfl rfl rfl (by decide +kernel) ⟨Nat.le_of_ble_eq_true rfl, Nat.le_of_ble_eq_true rfl⟩) (Foc.rfl _ _) hK hP hD hS hA 2 rfl rfl rfl hl.1 rfl (Nat.le_of_ble_eq_true rfl) ⟨Nat.zero_le _, Nat.zero_le _⟩ dX1_putFour_13 (fun H locs hP hD hS => ?_)
  have hP : va_P D vwCl (WIN T v B O g ((ln + 1) + 1) un nx pl (va_up (va_up f0 ln (((z.toUInt32 >>> (Int32.toUInt32 24 &&& Int32.toUInt32 31)).toInt32) &&& 255)) (ln + 1) (((z.toUInt32 >>> (Int32.toUInt32 16 &&& Int32.toUInt32 31)).toInt32) &&& 255)) f1 f2) H := hP
  have hD : va_D A (WIN T v B O g ((ln + 1) + 1) un nx pl (va_up (va_up f0 ln (((z.toUInt32 >>> (Int32.toUInt32 24 &&& Int32.toUInt32 31)).toInt32) &&& 255)) (ln + 1) (((z.toUInt32 >>> (Int32.toUInt32 16 &&& Int32.toUInt32 31)).toInt32) &&& 255)) f1 f2) := hD
  refine lv_aload_n hx hb dX1_putFour_16 rfl (lv_at hl 0 rfl) ?_
  refine lv_iload_n hx hb dX1_putFour_17 rfl (lv_at hl 1 rfl) ?_
  refine lv_bipush (v := 8) hx hb dX1_putFour_18 (by decide) ?_
  refine lv_iushr (v := (z.toUInt32 >>> (Int32.toUInt32 8 &&& Int32.toUInt32 31)).toInt32) hx hb dX1_putFour_20 rfl ?_
  refine wrVv (As := [.int ((z.toUInt32 >>> (Int32.toUInt32 8 &&& Int32.toUInt32 31)).toInt32)]) (rest := []) ⟨hx, hb, hml, hown, hts⟩ (c_X1_put l D T v B O g ((ln + 1) + 1) un nx pl (va_up (va_up f0 ln (((z.toUInt32 >>> (Int32.toUInt32 24 &&& Int32.toUInt32 31)).toInt32) &&& 255)) (ln + 1) (((z.toUInt32 >>> (Int32.toUInt32 16 &&& Int32.toUInt32 31)).toInt32) &&& 255)) f1 f2 ((z.toUInt32 >>> (Int32.toUInt32 8 &&& Int32.toUInt32 31)).toInt32) (by omega) _) (cwV 1 hts gX1_putFour_X1_put rfl rfl rfl (by decide +kernel) ⟨Nat.le_of_ble_eq_true rfl, Nat.le_of_ble_eq_true rfl⟩) (Foc.rfl _ _) hK hP hD hS hA 2 rfl rfl rfl hl.1 rfl (Nat.le_of_ble_eq_true rfl) ⟨Nat.zero_le _, Nat.zero_le _⟩ dX1_putFour_21 (fun H locs hP hD hS => ?_)
  have hP : va_P D vwCl (WIN T v B O g (((ln + 1) + 1) + 1) un nx pl (va_up (va_up (va_up f0 ln (((z.toUInt32 >>> (Int32.toUInt32 24 &&& Int32.toUInt32 31)).toInt32) &&& 255)) (ln + 1) (((z.toUInt32 >>> (Int32.toUInt32 16 &&& Int32.toUInt32 31)).toInt32) &&& 255)) ((ln + 1) + 1) (((z.toUInt32 >>> (Int32.toUInt32 8 &&& Int32.toUInt32 31)).toInt32) &&& 255)) f1 f2) H := hP
  have hD : va_D A (WIN T v B O g (((ln + 1) + 1) + 1) un nx pl (va_up (va_up (va_up f0 ln (((z.toUInt32 >>> (Int32.toUInt32 24 &&& Int32.toUInt32 31)).toInt32) &&& 255)) (ln + 1) (((z.toUInt32 >>> (Int32.toUInt32 16 &&& Int32.toUInt32 31)).toInt32) &&& 255)) ((ln + 1) + 1) (((z.toUInt32 >>> (Int32.toUInt32 8 &&& Int32.toUInt32 31)).toInt32) &&& 255)) f1 f2) := hD
  refine lv_aload_n hx hb dX1_putFour_24 rfl (lv_at hl 0 rfl) ?_
  refine lv_iload_n hx hb dX1_putFour_25 rfl (lv_at hl 1 rfl) ?_
  refine wrVv (As := [.int (z)]) (rest := []) ⟨hx, hb, hml, hown, hts⟩ (c_X1_put l D T v B O g (((ln + 1) + 1) + 1) un nx pl (va_up (va_up (va_up f0 ln (((z.toUInt32 >>> (Int32.toUInt32 24 &&& Int32.toUInt32 31)).toInt32) &&& 255)) (ln + 1) (((z.toUInt32 >>> (Int32.toUInt32 16 &&& Int32.toUInt32 31)).toInt32) &&& 255)) ((ln + 1) + 1) (((z.toUInt32 >>> (Int32.toUInt32 8 &&& Int32.toUInt32 31)).toInt32) &&& 255)) f1 f2 z (by omega) _) (cwV 1 hts gX1_putFour_X1_put rfl rfl rfl (by decide +kernel) ⟨Nat.le_of_ble_eq_true rfl, Nat.le_of_ble_eq_true rfl⟩) (Foc.rfl _ _) hK hP hD hS hA 2 rfl rfl rfl hl.1 rfl (Nat.le_of_ble_eq_true rfl) ⟨Nat.zero_le _, Nat.zero_le _⟩ dX1_putFour_26 (fun H locs hP hD hS => ?_)
  have hP : va_P D vwCl (WIN T v B O g ((((ln + 1) + 1) + 1) + 1) un nx pl (va_up (va_up (va_up (va_up f0 ln (((z.toUInt32 >>> (Int32.toUInt32 24 &&& Int32.toUInt32 31)).toInt32) &&& 255)) (ln + 1) (((z.toUInt32 >>> (Int32.toUInt32 16 &&& Int32.toUInt32 31)).toInt32) &&& 255)) ((ln + 1) + 1) (((z.toUInt32 >>> (Int32.toUInt32 8 &&& Int32.toUInt32 31)).toInt32) &&& 255)) (((ln + 1) + 1) + 1) (z &&& 255)) f1 f2) H := hP
  have hD : va_D A (WIN T v B O g ((((ln + 1) + 1) + 1) + 1) un nx pl (va_up (va_up (va_up (va_up f0 ln (((z.toUInt32 >>> (Int32.toUInt32 24 &&& Int32.toUInt32 31)).toInt32) &&& 255)) (ln + 1) (((z.toUInt32 >>> (Int32.toUInt32 16 &&& Int32.toUInt32 31)).toInt32) &&& 255)) ((ln + 1) + 1) (((z.toUInt32 >>> (Int32.toUInt32 8 &&& Int32.toUInt32 31)).toInt32) &&& 255)) (((ln + 1) + 1) + 1) (z &&& 255)) f1 f2) := hD
  have hE : (WIN T v B O g ((((ln + 1) + 1) + 1) + 1) un nx pl (va_up (va_up (va_up (va_up f0 ln (((z.toUInt32 >>> (Int32.toUInt32 24 &&& Int32.toUInt32 31)).toInt32) &&& 255)) (ln + 1) (((z.toUInt32 >>> (Int32.toUInt32 16 &&& Int32.toUInt32 31)).toInt32) &&& 255)) ((ln + 1) + 1) (((z.toUInt32 >>> (Int32.toUInt32 8 &&& Int32.toUInt32 31)).toInt32) &&& 255)) (((ln + 1) + 1) + 1) (z &&& 255)) f1 f2 : va_W) = (WIN T v B O g (ln + 4) un nx pl (put4 z ln f0) f1 f2) := by rfl
  exact hret _ _ _ _ dX1_putFour_29 (by rw [← hE]; exact hP) (by rw [← hE]; exact hD) hS

set_option maxHeartbeats 4000000 in
set_option maxRecDepth 100000 in
theorem c_X9_append (l : Launch) (hl9 : l.stackTraces = false) (D : va_G) (T : Nat → ClassId) (aK aV : Nat → Nat) (v : Nat → Nat) (B : Nat → Nat → Nat) (O : Nat → Nat → Nat → Int32) (g : CSt) (ln un nx pl : Nat) (f0 f1 f2 : Nat → Int32) (a1 : Int32) (a2 : Int32) (a3 : Int32) (a4 : Int32) (a5 : Int32) (hL2 : ln ≤ 600) (sz : Nat) : vx_Met l yX9_append wsX9_append ({ frames := 6, cells := 1, slots := 6, locals := 90 } : Room) (va_Pc [.ref (v 0), .int (a1), .int (a2), .int (a3), .int (a4), .int (a5)] (PSc D T aK aV (WIN T v B O g ln un nx pl f0 f1 f2) sz)) (va_Qi (fun r9 (_ : Unit) => (chkB (decide (ln ≤ 580)) "java/lang/IllegalStateException") = none ∧ r9 = (nI (ln + 20))) (fun _ t => QS D T (va_A (WIN T v B O g ln un nx pl f0 f1 f2) sz) (WIN T v B O g (ln + 20) un nx pl (appC a1 a2 a3 a4 a5 ln f0) f1 f2) t) (va_A (WIN T v B O g ln un nx pl f0 f1 f2) sz)) (vx_X (fun (_ : Unit) => True) (fun E _ t => (chkB (decide (ln ≤ 580)) "java/lang/IllegalStateException") = some E ∧ QS D T (va_A (WIN T v B O g ln un nx pl f0 f1 f2) sz) (WIN T v B O g ln un nx pl f0 f1 f2) t) (va_A (WIN T v B O g ln un nx pl f0 f1 f2) sz)) 1 6 (va_A (WIN T v B O g ln un nx pl f0 f1 f2) sz) := by
  refine metXi (cc := cX9_append) (maxL := 7) (ty := .int) (by decide) rfl (by rfl) (Nat.le_of_ble_eq_true rfl) ?_
  intro p e s m args below meth c Qc XC free ls A hx hb hml hown hts hC hP hK hD hA hS hl htab hlocks hfr hret hthr
  have hown : s.vm.findClass RX9 = some m.cls := hown
  have hl : lv_has ls 7 [(0, .ref (v 0)), (1, .int (a1)), (2, .int (a2)), (3, .int (a3)), (4, .int (a4)), (5, .int (a5))] := hl
  have i1 : ∀ w ∈ wsX10, w ∈ wsX9_append := by decide +kernel
  have i2 : ∀ w ∈ wsX20, w ∈ wsX9_append := by decide +kernel
  have i9 : ∀ w ∈ wsX90, w ∈ wsX9_append := by decide +kernel
  have w1 := hts (Cond.classLink RX9 82 "java/lang/IllegalStateException") (List.mem_of_getElem? (i := 1) rfl)
  have w2 := hts (Cond.initialized "java/lang/IllegalStateException") (List.mem_of_getElem? (i := 2) rfl)
  have w3 := hts (Cond.fieldLink RX9 12 "MoonComplaintWindow" "loader" "LMoonComplaintWindow$Loader;") (List.mem_of_getElem? (i := 3) rfl)
  have w4 := hts (Cond.fieldLink RX9 55 "MoonComplaintWindow$Loader" "input" "LMoonComplaintWindow$Input;") (List.mem_of_getElem? (i := 4) rfl)
  have w5 := hts (Cond.fieldLink RX9 79 "MoonComplaintWindow$Input" "length" "I") (List.mem_of_getElem? (i := 5) rfl)
  refine lv_aload_n hx hb dX9_append_0 rfl (lv_at hl 0 rfl) ?_
  refine va_get (D := D) (ci := 9) (v := .ref (v 1)) (C := RX9) (T := TX9) (N := 6) hx hb hts i9 hown hK hP 0 rfl rfl 0 (by decide) w3 (fun _ h9 => h9) rfl dX9_append_1 ?_
  refine va_get (D := D) (ci := 2) (v := .ref (v 2)) (C := RX2) (T := TX2) (N := 4) hx hb hts i2 hown hK hP 1 rfl rfl 2 (by decide) w4 (fun _ h9 => h9) rfl dX9_append_4 ?_
  refine lv_astore (lv' := [(6, .ref (v 2)), (0, .ref (v 0)), (1, .int (a1)), (2, .int (a2)), (3, .int (a3)), (4, .int (a4)), (5, .int (a5))]) hx hb dX9_append_7 hl (by decide) rfl (fun ls hl => ?_)
  refine lv_aload hx hb dX9_append_9 (lv_at hl 0 rfl) ?_
  refine va_get (D := D) (ci := 1) (v := .int (nI ln)) (C := RX1) (T := TX1) (N := 5) hx hb hts i1 hown hK hP 2 rfl rfl 0 (by decide) w5 (fun _ h9 => h9) rfl dX9_append_11 ?_
  refine lv_sipush (v := 580) hx hb dX9_append_14 (by decide) ?_
  refine lv_icmp_le (tgt := 30) hx hb dX9_append_17 (by decide) (fun c17 => ?_) (fun c17 => ?_)
  ·
    have c17 : ln ≤ 580 := (nI_leI (a := ln) (b := 580) (by omega) (by omega)).mp c17
    refine lv_aload hx hb dX9_append_30 (lv_at hl 0 rfl) ?_
    refine lv_iload_n hx hb dX9_append_32 rfl (lv_at hl 2 rfl) ?_
    refine wrVv (As := [.int (a1)]) (rest := []) ⟨hx, hb, hml, hown, hts⟩ (c_X1_putFour l D T v B O g ln un nx pl f0 f1 f2 a1 (by omega) _) (cwV 1 hts gX9_append_X1_putFour rfl rfl rfl (by decide +kernel) ⟨Nat.le_of_ble_eq_true rfl, Nat.le_of_ble_eq_true rfl⟩) (Foc.rfl _ _) hK hP hD hS hA 2 rfl rfl rfl hl.1 rfl (Nat.le_of_ble_eq_true rfl) ⟨Nat.zero_le _, Nat.zero_le _⟩ dX9_append_33 (fun H locs hP hD hS => ?_)
    have hP : va_P D vwCl (WIN T v B O g (ln + 4) un nx pl (put4 a1 ln f0) f1 f2) H := hP
    have hD : va_D A (WIN T v B O g (ln + 4) un nx pl (put4 a1 ln f0) f1 f2) := hD
    refine lv_aload hx hb dX9_append_36 (lv_at hl 0 rfl) ?_
    refine lv_iload_n hx hb dX9_append_38 rfl (lv_at hl 3 rfl) ?_
    refine wrVv (As := [.int (a2)]) (rest := []) ⟨hx, hb, hml, hown, hts⟩ (c_X1_putFour l D T v B O g (ln + 4) un nx pl (put4 a1 ln f0) f1 f2 a2 (by omega) _) (cwV 1 hts gX9_append_X1_putFour rfl rfl rfl (by decide +kernel) ⟨Nat.le_of_ble_eq_true rfl, Nat.le_of_ble_eq_true rfl⟩) (Foc.rfl _ _) hK hP hD hS hA 2 rfl rfl rfl hl.1 rfl (Nat.le_of_ble_eq_true rfl) ⟨Nat.zero_le _, Nat.zero_le _⟩ dX9_append_39 (fun H locs hP hD hS => ?_)
    have hP : va_P D vwCl (WIN T v B O g ((ln + 4) + 4) un nx pl (put4 a2 (ln + 4) (put4 a1 ln f0)) f1 f2) H := hP
    have hD : va_D A (WIN T v B O g ((ln + 4) + 4) un nx pl (put4 a2 (ln + 4) (put4 a1 ln f0)) f1 f2) := hD
    refine lv_aload hx hb dX9_append_42 (lv_at hl 0 rfl) ?_
    refine lv_iload_n hx hb dX9_append_44 rfl (lv_at hl 4 rfl) ?_
    refine wrVv (As := [.int (a3)]) (rest := []) ⟨hx, hb, hml, hown, hts⟩ (c_X1_putFour l D T v B O g ((ln + 4) + 4) un nx pl (put4 a2 (ln + 4) (put4 a1 ln f0)) f1 f2 a3 (by omega) _) (cwV 1 hts gX9_append_X1_putFour rfl rfl rfl (by decide +kernel) ⟨Nat.le_of_ble_eq_true rfl, Nat.le_of_ble_eq_true rfl⟩) (Foc.rfl _ _) hK hP hD hS hA 2 rfl rfl rfl hl.1 rfl (Nat.le_of_ble_eq_true rfl) ⟨Nat.zero_le _, Nat.zero_le _⟩ dX9_append_45 (fun H locs hP hD hS => ?_)
    have hP : va_P D vwCl (WIN T v B O g (((ln + 4) + 4) + 4) un nx pl (put4 a3 ((ln + 4) + 4) (put4 a2 (ln + 4) (put4 a1 ln f0))) f1 f2) H := hP
    have hD : va_D A (WIN T v B O g (((ln + 4) + 4) + 4) un nx pl (put4 a3 ((ln + 4) + 4) (put4 a2 (ln + 4) (put4 a1 ln f0))) f1 f2) := hD
    refine lv_aload hx hb dX9_append_48 (lv_at hl 0 rfl) ?_
    refine lv_iload hx hb dX9_append_50 (lv_at hl 5 rfl) ?_
    refine wrVv (As := [.int (a4)]) (rest := []) ⟨hx, hb, hml, hown, hts⟩ (c_X1_putFour l D T v B O g (((ln + 4) + 4) + 4) un nx pl (put4 a3 ((ln + 4) + 4) (put4 a2 (ln + 4) (put4 a1 ln f0))) f1 f2 a4 (by omega) _) (cwV 1 hts gX9_append_X1_putFour rfl rfl rfl (by decide +kernel) ⟨Nat.le_of_ble_eq_true rfl, Nat.le_of_ble_eq_true rfl⟩) (Foc.rfl _ _) hK hP hD hS hA 2 rfl rfl rfl hl.1 rfl (Nat.le_of_ble_eq_true rfl) ⟨Nat.zero_le _, Nat.zero_le _⟩ dX9_append_52 (fun H locs hP hD hS => ?_)
    have hP : va_P D vwCl (WIN T v B O g ((((ln + 4) + 4) + 4) + 4) un nx pl (put4 a4 (((ln + 4) + 4) + 4) (put4 a3 ((ln + 4) + 4) (put4 a2 (ln + 4) (put4 a1 ln f0)))) f1 f2) H := hP
    have hD : va_D A (WIN T v B O g ((((ln + 4) + 4) + 4) + 4) un nx pl (put4 a4 (((ln + 4) + 4) + 4) (put4 a3 ((ln + 4) + 4) (put4 a2 (ln + 4) (put4 a1 ln f0)))) f1 f2) := hD
    refine lv_aload hx hb dX9_append_55 (lv_at hl 0 rfl) ?_
    refine lv_iload hx hb dX9_append_57 (lv_at hl 6 rfl) ?_
    refine wrVv (As := [.int (a5)]) (rest := []) ⟨hx, hb, hml, hown, hts⟩ (c_X1_putFour l D T v B O g ((((ln + 4) + 4) + 4) + 4) un nx pl (put4 a4 (((ln + 4) + 4) + 4) (put4 a3 ((ln + 4) + 4) (put4 a2 (ln + 4) (put4 a1 ln f0)))) f1 f2 a5 (by omega) _) (cwV 1 hts gX9_append_X1_putFour rfl rfl rfl (by decide +kernel) ⟨Nat.le_of_ble_eq_true rfl, Nat.le_of_ble_eq_true rfl⟩) (Foc.rfl _ _) hK hP hD hS hA 2 rfl rfl rfl hl.1 rfl (Nat.le_of_ble_eq_true rfl) ⟨Nat.zero_le _, Nat.zero_le _⟩ dX9_append_59 (fun H locs hP hD hS => ?_)
    have hP : va_P D vwCl (WIN T v B O g (((((ln + 4) + 4) + 4) + 4) + 4) un nx pl (put4 a5 ((((ln + 4) + 4) + 4) + 4) (put4 a4 (((ln + 4) + 4) + 4) (put4 a3 ((ln + 4) + 4) (put4 a2 (ln + 4) (put4 a1 ln f0))))) f1 f2) H := hP
    have hD : va_D A (WIN T v B O g (((((ln + 4) + 4) + 4) + 4) + 4) un nx pl (put4 a5 ((((ln + 4) + 4) + 4) + 4) (put4 a4 (((ln + 4) + 4) + 4) (put4 a3 ((ln + 4) + 4) (put4 a2 (ln + 4) (put4 a1 ln f0))))) f1 f2) := hD
    refine lv_aload hx hb dX9_append_62 (lv_at hl 0 rfl) ?_
    refine va_get (D := D) (ci := 1) (v := .int (nI (((((ln + 4) + 4) + 4) + 4) + 4))) (C := RX1) (T := TX1) (N := 5) hx hb hts i1 hown hK hP 2 rfl rfl 0 (by decide) w5 (fun _ h9 => h9) rfl dX9_append_64 ?_
    refine endI (r := nI (ln + 20)) (by rfl) ?_
    have hE : (WIN T v B O g (((((ln + 4) + 4) + 4) + 4) + 4) un nx pl (put4 a5 ((((ln + 4) + 4) + 4) + 4) (put4 a4 (((ln + 4) + 4) + 4) (put4 a3 ((ln + 4) + 4) (put4 a2 (ln + 4) (put4 a1 ln f0))))) f1 f2 : va_W) = (WIN T v B O g (ln + 20) un nx pl (appC a1 a2 a3 a4 a5 ln f0) f1 f2) := by rfl
    exact hret _ _ _ _ _ _ dX9_append_67 (by first | rfl | (simp only [orE, c17]; done) | (simp only [orE, c17] <;> simp [chkB, c17]; done) | (simp [orE, chkB, c17]; done) | ((first | have c17x := Int32.not_lt.mp c17 | have c17x := Int32.not_le.mp c17 | have c17x := Int32.not_lt.mpr c17 | have c17x := Int32.not_le.mpr c17 | have c17x := c17); simp [orE, chkB, c17, c17x]; done)) (by rw [← hE]; exact hP) (by rw [← hE]; exact hD) hS (by decide) (by decide)
  ·
    have c17 : ¬ ln ≤ 580 := fun h9 => c17 ((nI_leI (a := ln) (b := 580) (by omega) (by omega)).mpr h9)
    exact vx_throwS (cls := "java/lang/IllegalStateException") (names := supL) (text := "the input buffer is full") (sa := aK 9) hx hb hl9 hown (by decide +kernel) (by decide +kernel) w1 w2 (show vk_R RX9 84 "the input buffer is full" (aK 9) s from hC.2.1 9 (by decide)) (vx_hat (B := badW "java/lang/IllegalStateException") (fun w hw => hts w (List.mem_cons_of_mem _ (List.mem_append_right _ hw))) tb_86 (hC.2.2.2.2.use (by decide +kernel))) tg_86 hC.2.2.1 hC.2.2.2.1 hS (hl.1.trans hml.symm) dX9_append_20 dX9_append_23 dX9_append_24 dX9_append_26 dX9_append_29 (fun x hx => (htab x hx).elim) (by decide) (Nat.le_of_ble_eq_true rfl) (Nat.le_of_ble_eq_true rfl) (Nat.le_of_ble_eq_true rfl) hlocks (fun t hv hz hk => hthr _ _ _ t (by first | rfl | (simp only [orE, c17]; done) | (simp only [orE, c17] <;> simp [chkB, c17]; done) | (simp [orE, chkB, c17]; done) | ((first | have c17x := Int32.not_lt.mp c17 | have c17x := Int32.not_le.mp c17 | have c17x := Int32.not_lt.mpr c17 | have c17x := Int32.not_le.mpr c17 | have c17x := c17); simp [orE, chkB, c17, c17x]; done)) hP hD hS hv hz hk) (fun z hz => hfr _ (hS.2.2 z hz)) (by decide) (by decide)

set_option maxHeartbeats 4000000 in
set_option maxRecDepth 100000 in
theorem c_X9_shorten (l : Launch) (hl9 : l.stackTraces = false) (D : va_G) (T : Nat → ClassId) (aK aV : Nat → Nat) (v : Nat → Nat) (B : Nat → Nat → Nat) (O : Nat → Nat → Nat → Int32) (g : CSt) (ln un nx pl : Nat) (f0 f1 f2 : Nat → Int32) (z : Int32) (hL2 : ln ≤ 600) (sz : Nat) : vx_Met l yX9_shorten wsX9_shorten ({ frames := 6, cells := 1, slots := 6, locals := 90 } : Room) (va_Pc [.ref (v 0), .int (z)] (PSc D T aK aV (WIN T v B O g ln un nx pl f0 f1 f2) sz)) (va_Qi (fun r9 (_ : Unit) => (chkB (rg z 0 (nI ln)) "java/lang/IllegalArgumentException") = none ∧ r9 = z) (fun _ t => QS D T (va_A (WIN T v B O g ln un nx pl f0 f1 f2) sz) (WIN T v B O g z.toNatClampNeg un nx pl f0 f1 f2) t) (va_A (WIN T v B O g ln un nx pl f0 f1 f2) sz)) (vx_X (fun (_ : Unit) => True) (fun E _ t => (chkB (rg z 0 (nI ln)) "java/lang/IllegalArgumentException") = some E ∧ QS D T (va_A (WIN T v B O g ln un nx pl f0 f1 f2) sz) (WIN T v B O g ln un nx pl f0 f1 f2) t) (va_A (WIN T v B O g ln un nx pl f0 f1 f2) sz)) 1 6 (va_A (WIN T v B O g ln un nx pl f0 f1 f2) sz) := by
  refine metXi (cc := cX9_shorten) (maxL := 2) (ty := .int) (by decide) rfl (by rfl) (Nat.le_of_ble_eq_true rfl) ?_
  intro p e s m args below meth c Qc XC free ls A hx hb hml hown hts hC hP hK hD hA hS hl htab hlocks hfr hret hthr
  have hown : s.vm.findClass RX9 = some m.cls := hown
  have hl : lv_has ls 2 [(0, .ref (v 0)), (1, .int (z))] := hl
  have i1 : ∀ w ∈ wsX10, w ∈ wsX9_shorten := by decide +kernel
  have i2 : ∀ w ∈ wsX20, w ∈ wsX9_shorten := by decide +kernel
  have i9 : ∀ w ∈ wsX90, w ∈ wsX9_shorten := by decide +kernel
  have w1 := hts (Cond.classLink RX9 92 "java/lang/IllegalArgumentException") (List.mem_of_getElem? (i := 1) rfl)
  have w2 := hts (Cond.initialized "java/lang/IllegalArgumentException") (List.mem_of_getElem? (i := 2) rfl)
  have w3 := hts (Cond.fieldLink RX9 12 "MoonComplaintWindow" "loader" "LMoonComplaintWindow$Loader;") (List.mem_of_getElem? (i := 3) rfl)
  have w4 := hts (Cond.fieldLink RX9 55 "MoonComplaintWindow$Loader" "input" "LMoonComplaintWindow$Input;") (List.mem_of_getElem? (i := 4) rfl)
  have w5 := hts (Cond.fieldLink RX9 79 "MoonComplaintWindow$Input" "length" "I") (List.mem_of_getElem? (i := 5) rfl)
  refine lv_iload_n hx hb dX9_shorten_0 rfl (lv_at hl 1 rfl) ?_
  refine lv_if_lt (tgt := 18) hx hb dX9_shorten_1 (by decide) (fun c1 => ?_) (fun c1 => ?_)
  ·
    have hq9 : rg z 0 (nI ln) = false := by simp only [rg, Bool.and_eq_false_iff, decide_eq_false_iff_not]; exact Or.inl (Int32.not_le.mpr c1)
    exact vx_throwS (cls := "java/lang/IllegalArgumentException") (names := supL) (text := "not a length of a beginning of the buffer") (sa := aK 10) hx hb hl9 hown (by decide +kernel) (by decide +kernel) w1 w2 (show vk_R RX9 94 "not a length of a beginning of the buffer" (aK 10) s from hC.2.1 10 (by decide)) (vx_hat (B := badW "java/lang/IllegalArgumentException") (fun w hw => hts w (List.mem_cons_of_mem _ (List.mem_append_right _ hw))) tb_96 (hC.2.2.2.2.use (by decide +kernel))) tg_96 hC.2.2.1 hC.2.2.2.1 hS (hl.1.trans hml.symm) dX9_shorten_18 dX9_shorten_21 dX9_shorten_22 dX9_shorten_24 dX9_shorten_27 (fun x hx => (htab x hx).elim) (by decide) (Nat.le_of_ble_eq_true rfl) (Nat.le_of_ble_eq_true rfl) (Nat.le_of_ble_eq_true rfl) hlocks (fun t hv hz hk => hthr _ _ _ t (by first | exact chkB_f hq9 | exact chkB_n hq9) hP hD hS hv hz hk) (fun z hz => hfr _ (hS.2.2 z hz)) (by decide) (by decide)
  ·
    refine lv_iload_n hx hb dX9_shorten_4 rfl (lv_at hl 1 rfl) ?_
    refine lv_aload_n hx hb dX9_shorten_5 rfl (lv_at hl 0 rfl) ?_
    refine va_get (D := D) (ci := 9) (v := .ref (v 1)) (C := RX9) (T := TX9) (N := 6) hx hb hts i9 hown hK hP 0 rfl rfl 0 (by decide) w3 (fun _ h9 => h9) rfl dX9_shorten_6 ?_
    refine va_get (D := D) (ci := 2) (v := .ref (v 2)) (C := RX2) (T := TX2) (N := 4) hx hb hts i2 hown hK hP 1 rfl rfl 2 (by decide) w4 (fun _ h9 => h9) rfl dX9_shorten_9 ?_
    refine va_get (D := D) (ci := 1) (v := .int (nI ln)) (C := RX1) (T := TX1) (N := 5) hx hb hts i1 hown hK hP 2 rfl rfl 0 (by decide) w5 (fun _ h9 => h9) rfl dX9_shorten_12 ?_
    refine lv_icmp_le (tgt := 28) hx hb dX9_shorten_15 (by decide) (fun c15 => ?_) (fun c15 => ?_)
    ·
      have hq9 : rg z 0 (nI ln) = true := by simp only [rg, Bool.and_eq_true, decide_eq_true_eq]; exact ⟨Int32.not_lt.mp c1, c15⟩
      obtain ⟨j, hj, hjz, hjc⟩ := rg_nat (n := ln) (by omega) hq9
      rw [hjz] at hl
      have hl : lv_has ls 2 [(0, .ref (v 0)), (1, .int (nI j))] := hl
      refine lv_aload_n hx hb dX9_shorten_28 rfl (lv_at hl 0 rfl) ?_
      refine va_get (D := D) (ci := 9) (v := .ref (v 1)) (C := RX9) (T := TX9) (N := 6) hx hb hts i9 hown hK hP 0 rfl rfl 0 (by decide) w3 (fun _ h9 => h9) rfl dX9_shorten_29 ?_
      refine va_get (D := D) (ci := 2) (v := .ref (v 2)) (C := RX2) (T := TX2) (N := 4) hx hb hts i2 hown hK hP 1 rfl rfl 2 (by decide) w4 (fun _ h9 => h9) rfl dX9_shorten_32 ?_
      refine lv_iload_n hx hb dX9_shorten_35 rfl (lv_at hl 1 rfl) ?_
      refine va_put (D := D) (ci := 1) (v := .int (nI j)) (ty := .int) (C := RX1) (T := TX1) (N := 5) hx hb hts i1 tyX1 tyX1_ok nmX1 hown hK hP hD hS 2 rfl rfl 0 (by decide) w5 (fun _ h9 => h9) rfl (by decide +kernel) rfl rfl (Nat.le_of_ble_eq_true rfl) dX9_shorten_36 (fun H locs hP hD hS => ?_)
      have hP : va_P D vwCl (WIN T v B O g j un nx pl f0 f1 f2) H := hP
      have hD : va_D A (WIN T v B O g j un nx pl f0 f1 f2) := hD
      refine lv_iload_n hx hb dX9_shorten_39 rfl (lv_at hl 1 rfl) ?_
      refine endI (r := z) (by exact hjz.symm) ?_
      have hE : (WIN T v B O g j un nx pl f0 f1 f2 : va_W) = (WIN T v B O g z.toNatClampNeg un nx pl f0 f1 f2) := by rw [hjc]
      exact hret _ _ _ _ _ _ dX9_shorten_40 (by first | exact chkB_f hq9 | exact chkB_n hq9) (by rw [← hE]; exact hP) (by rw [← hE]; exact hD) hS (by decide) (by decide)
    ·
      have hq9 : rg z 0 (nI ln) = false := by simp only [rg, Bool.and_eq_false_iff, decide_eq_false_iff_not]; exact Or.inr c15
      exact vx_throwS (cls := "java/lang/IllegalArgumentException") (names := supL) (text := "not a length of a beginning of the buffer") (sa := aK 10) hx hb hl9 hown (by decide +kernel) (by decide +kernel) w1 w2 (show vk_R RX9 94 "not a length of a beginning of the buffer" (aK 10) s from hC.2.1 10 (by decide)) (vx_hat (B := badW "java/lang/IllegalArgumentException") (fun w hw => hts w (List.mem_cons_of_mem _ (List.mem_append_right _ hw))) tb_96 (hC.2.2.2.2.use (by decide +kernel))) tg_96 hC.2.2.1 hC.2.2.2.1 hS (hl.1.trans hml.symm) dX9_shorten_18 dX9_shorten_21 dX9_shorten_22 dX9_shorten_24 dX9_shorten_27 (fun x hx => (htab x hx).elim) (by decide) (Nat.le_of_ble_eq_true rfl) (Nat.le_of_ble_eq_true rfl) (Nat.le_of_ble_eq_true rfl) hlocks (fun t hv hz hk => hthr _ _ _ t (by first | exact chkB_f hq9 | exact chkB_n hq9) hP hD hS hv hz hk) (fun z hz => hfr _ (hS.2.2 z hz)) (by decide) (by decide)

set_option maxHeartbeats 4000000 in
set_option maxRecDepth 100000 in
theorem c_X9_load (l : Launch) (hl9 : l.stackTraces = false) (D : va_G) (T : Nat → ClassId) (aK aV : Nat → Nat) (v : Nat → Nat) (B : Nat → Nat → Nat) (O : Nat → Nat → Nat → Int32) (g : CSt) (ln un nx pl : Nat) (f0 f1 f2 : Nat → Int32) (hL2 : ln ≤ 600) (hby : ∀ i, i < ln → ¬ f0 i = -1) (sz : Nat) : vx_Met l yX9_load wsX9_load ({ frames := 9, cells := 1, slots := 6, locals := 195 } : Room) (va_Pc [.ref (v 0)] (PSc D T aK aV (WIN T v B O g ln un nx pl f0 f1 f2) sz)) (va_Qi (fun r9 (_ : Unit) => (chkB (!(rd5 f0 ln (O 2, g)).2.2.2.1) "java/lang/IllegalArgumentException") = none ∧ r9 = ((rd4 f0 ln (O 2, g)).2.1 0 7)) (fun _ t => QS D T (va_A (WIN T v B O g ln un nx pl f0 f1 f2) sz) (WIN T v B (va_up (va_up O 2 ((rd4 f0 ln (O 2, g)).2.1)) 0 ((rd4 f0 ln (O 2, g)).2.1)) (rd5 f0 ln (O 2, g)) 0 0 nx pl f0 f1 (iter (fun k f => va_up f k 0) 2 0 f2)) t) (va_A (WIN T v B O g ln un nx pl f0 f1 f2) sz)) (vx_X (fun (_ : Unit) => True) (fun E _ t => (chkB (!(rd5 f0 ln (O 2, g)).2.2.2.1) "java/lang/IllegalArgumentException") = some E ∧ QS D T (va_A (WIN T v B O g ln un nx pl f0 f1 f2) sz) (WIN T v B (va_up O 2 ((rd4 f0 ln (O 2, g)).2.1)) (rd5 f0 ln (O 2, g)) 0 un nx pl f0 f1 f2) t) (va_A (WIN T v B O g ln un nx pl f0 f1 f2) sz)) 1 6 (va_A (WIN T v B O g ln un nx pl f0 f1 f2) sz) := by
  refine metXi (cc := cX9_load) (maxL := 1) (ty := .int) (by decide) rfl (by rfl) (Nat.le_of_ble_eq_true rfl) ?_
  intro p e s m args below meth c Qc XC free ls A hx hb hml hown hts hC hP hK hD hA hS hl htab hlocks hfr hret hthr
  have hown : s.vm.findClass RX9 = some m.cls := hown
  have hl : lv_has ls 1 [(0, .ref (v 0))] := hl
  have i2 : ∀ w ∈ wsX20, w ∈ wsX9_load := by decide +kernel
  have i3 : ∀ w ∈ wsX30, w ∈ wsX9_load := by decide +kernel
  have i5 : ∀ w ∈ wsX50, w ∈ wsX9_load := by decide +kernel
  have i9 : ∀ w ∈ wsX90, w ∈ wsX9_load := by decide +kernel
  have w1 := hts (Cond.classLink RX9 92 "java/lang/IllegalArgumentException") (List.mem_of_getElem? (i := 1) rfl)
  have w2 := hts (Cond.initialized "java/lang/IllegalArgumentException") (List.mem_of_getElem? (i := 2) rfl)
  have w3 := hts (Cond.fieldLink RX9 12 "MoonComplaintWindow" "loader" "LMoonComplaintWindow$Loader;") (List.mem_of_getElem? (i := 3) rfl)
  have w4 := hts (Cond.fieldLink RX9 97 "MoonComplaintWindow$Loader" "failed" "Z") (List.mem_of_getElem? (i := 4) rfl)
  have w5 := hts (Cond.fieldLink RX9 19 "MoonComplaintWindow" "office" "LMoonComplaintWindow$Office;") (List.mem_of_getElem? (i := 5) rfl)
  have w6 := hts (Cond.fieldLink RX9 72 "MoonComplaintWindow$Loader" "draft" "LMoonComplaintWindow$Office;") (List.mem_of_getElem? (i := 6) rfl)
  have w7 := hts (Cond.fieldLink RX9 29 "MoonComplaintWindow" "history" "LMoonComplaintWindow$History;") (List.mem_of_getElem? (i := 7) rfl)
  have w8 := hts (Cond.fieldLink RX9 36 "MoonComplaintWindow" "snapshots" "LMoonComplaintWindow$Snapshots;") (List.mem_of_getElem? (i := 8) rfl)
  have w9 := hts (Cond.fieldLink RX9 107 "MoonComplaintWindow$Office" "pile" "LMoonComplaintWindow$Pile;") (List.mem_of_getElem? (i := 9) rfl)
  have w10 := hts (Cond.fieldLink RX9 111 "MoonComplaintWindow$Pile" "total" "I") (List.mem_of_getElem? (i := 10) rfl)
  refine lv_aload_n hx hb dX9_load_0 rfl (lv_at hl 0 rfl) ?_
  refine va_get (D := D) (ci := 9) (v := .ref (v 1)) (C := RX9) (T := TX9) (N := 6) hx hb hts i9 hown hK hP 0 rfl rfl 0 (by decide) w3 (fun _ h9 => h9) rfl dX9_load_1 ?_
  refine wcVv (As := []) (rest := []) ⟨hx, hb, hml, hown, hts⟩ (c_X2_read l D T aK aV v B O g ln un nx pl f0 f1 f2 hL2 hby _) (cwV 0 hts gX9_load_X2_read rfl rfl rfl (by decide +kernel) ⟨Nat.le_of_ble_eq_true rfl, Nat.le_of_ble_eq_true rfl⟩) (Foc.rfl _ _) hC hK hP hD hS hA 1 rfl rfl rfl hl.1 rfl (Nat.le_of_ble_eq_true rfl) ⟨Nat.zero_le _, Nat.zero_le _⟩ dX9_load_4 (fun H locs hP hD hS => ?_)
  have hP : va_P D vwCl (WIN T v B (va_up O 2 ((rd4 f0 ln (O 2, g)).2.1)) (rd5 f0 ln (O 2, g)) 0 un nx pl f0 f1 f2) H := hP
  have hD : va_D A (WIN T v B (va_up O 2 ((rd4 f0 ln (O 2, g)).2.1)) (rd5 f0 ln (O 2, g)) 0 un nx pl f0 f1 f2) := hD
  generalize hd2 : (rd4 f0 ln (O 2, g)).2.1 = d2 at hP hD
  have hP : va_P D vwCl (WIN T v B (va_up O 2 d2) (rd5 f0 ln (O 2, g)) 0 un nx pl f0 f1 f2) H := hP
  have hD : va_D A (WIN T v B (va_up O 2 d2) (rd5 f0 ln (O 2, g)) 0 un nx pl f0 f1 f2) := hD
  refine lv_aload_n hx hb dX9_load_7 rfl (lv_at hl 0 rfl) ?_
  refine va_get (D := D) (ci := 9) (v := .ref (v 1)) (C := RX9) (T := TX9) (N := 6) hx hb hts i9 hown hK hP 0 rfl rfl 0 (by decide) w3 (fun _ h9 => h9) rfl dX9_load_8 ?_
  refine va_get (D := D) (ci := 2) (v := .int (bI ((rd5 f0 ln (O 2, g)).2.2.2.1))) (C := RX2) (T := TX2) (N := 4) hx hb hts i2 hown hK hP 1 rfl rfl 0 (by decide) w4 (fun _ h9 => h9) rfl dX9_load_11 ?_
  refine lv_if_eq (tgt := 27) hx hb dX9_load_14 (by decide) (fun c14 => ?_) (fun c14 => ?_)
  ·
    have c14 := bI_0.mp c14
    refine lv_aload_n hx hb dX9_load_27 rfl (lv_at hl 0 rfl) ?_
    refine va_get (D := D) (ci := 9) (v := .ref ((B 0) 0)) (C := RX9) (T := TX9) (N := 6) hx hb hts i9 hown hK hP 0 rfl rfl 1 (by decide) w5 (fun _ h9 => h9) rfl dX9_load_28 ?_
    refine lv_aload_n hx hb dX9_load_31 rfl (lv_at hl 0 rfl) ?_
    refine va_get (D := D) (ci := 9) (v := .ref (v 1)) (C := RX9) (T := TX9) (N := 6) hx hb hts i9 hown hK hP 0 rfl rfl 0 (by decide) w3 (fun _ h9 => h9) rfl dX9_load_32 ?_
    refine va_get (D := D) (ci := 2) (v := .ref ((B 2) 0)) (C := RX2) (T := TX2) (N := 4) hx hb hts i2 hown hK hP 1 rfl rfl 3 (by decide) w6 (fun _ h9 => h9) rfl dX9_load_35 ?_
    refine wrVv (As := [.ref ((B 2) 0)]) (rest := []) ⟨hx, hb, hml, hown, hts⟩ (c_X3_copyFrom l D T (B 0) (O 0) (B 2) d2 _) (cwV 1 hts gX9_load_X3_copyFrom rfl rfl rfl (by decide +kernel) ⟨Nat.le_of_ble_eq_true rfl, Nat.le_of_ble_eq_true rfl⟩) (WIN_off2 (i := 0) (j := 2) (by decide) (by decide) (by decide) d2) hK hP hD hS hA 0 rfl rfl rfl hl.1 rfl (Nat.le_of_ble_eq_true rfl) ⟨Nat.zero_le _, Nat.zero_le _⟩ dX9_load_38 (fun H locs hP hD hS => ?_)
    have hP : va_P D vwCl (WIN T v B (va_up (va_up O 2 d2) 0 d2) (rd5 f0 ln (O 2, g)) 0 un nx pl f0 f1 f2) H := hP
    have hD : va_D A (WIN T v B (va_up (va_up O 2 d2) 0 d2) (rd5 f0 ln (O 2, g)) 0 un nx pl f0 f1 f2) := hD
    refine lv_aload_n hx hb dX9_load_41 rfl (lv_at hl 0 rfl) ?_
    refine va_get (D := D) (ci := 9) (v := .ref (v 4)) (C := RX9) (T := TX9) (N := 6) hx hb hts i9 hown hK hP 0 rfl rfl 3 (by decide) w7 (fun _ h9 => h9) rfl dX9_load_42 ?_
    refine wrVv (As := []) (rest := []) ⟨hx, hb, hml, hown, hts⟩ (c_X0_forget l D T v B (va_up (va_up O 2 d2) 0 d2) (rd5 f0 ln (O 2, g)) 0 un nx pl f0 f1 f2 _) (cwV 0 hts gX9_load_X0_forget rfl rfl rfl (by decide +kernel) ⟨Nat.le_of_ble_eq_true rfl, Nat.le_of_ble_eq_true rfl⟩) (Foc.rfl _ _) hK hP hD hS hA 4 rfl rfl rfl hl.1 rfl (Nat.le_of_ble_eq_true rfl) ⟨Nat.zero_le _, Nat.zero_le _⟩ dX9_load_45 (fun H locs hP hD hS => ?_)
    have hP : va_P D vwCl (WIN T v B (va_up (va_up O 2 d2) 0 d2) (rd5 f0 ln (O 2, g)) 0 0 nx pl f0 f1 f2) H := hP
    have hD : va_D A (WIN T v B (va_up (va_up O 2 d2) 0 d2) (rd5 f0 ln (O 2, g)) 0 0 nx pl f0 f1 f2) := hD
    refine lv_aload_n hx hb dX9_load_48 rfl (lv_at hl 0 rfl) ?_
    refine va_get (D := D) (ci := 9) (v := .ref (v 6)) (C := RX9) (T := TX9) (N := 6) hx hb hts i9 hown hK hP 0 rfl rfl 4 (by decide) w8 (fun _ h9 => h9) rfl dX9_load_49 ?_
    refine wrVv (As := []) (rest := []) ⟨hx, hb, hml, hown, hts⟩ (c_X7_forget l D T v B (va_up (va_up O 2 d2) 0 d2) (rd5 f0 ln (O 2, g)) 0 0 nx pl f0 f1 f2 _) (cwV 0 hts gX9_load_X7_forget rfl rfl rfl (by decide +kernel) ⟨Nat.le_of_ble_eq_true rfl, Nat.le_of_ble_eq_true rfl⟩) (Foc.rfl _ _) hK hP hD hS hA 6 rfl rfl rfl hl.1 rfl (Nat.le_of_ble_eq_true rfl) ⟨Nat.zero_le _, Nat.zero_le _⟩ dX9_load_52 (fun H locs hP hD hS => ?_)
    have hP : va_P D vwCl (WIN T v B (va_up (va_up O 2 d2) 0 d2) (rd5 f0 ln (O 2, g)) 0 0 nx pl f0 f1 (iter (fun k f => va_up f k 0) 2 0 f2)) H := hP
    have hD : va_D A (WIN T v B (va_up (va_up O 2 d2) 0 d2) (rd5 f0 ln (O 2, g)) 0 0 nx pl f0 f1 (iter (fun k f => va_up f k 0) 2 0 f2)) := hD
    refine lv_aload_n hx hb dX9_load_55 rfl (lv_at hl 0 rfl) ?_
    refine va_get (D := D) (ci := 9) (v := .ref ((B 0) 0)) (C := RX9) (T := TX9) (N := 6) hx hb hts i9 hown hK hP 0 rfl rfl 1 (by decide) w5 (fun _ h9 => h9) rfl dX9_load_56 ?_
    refine va_get (D := D) (ci := 3) (v := .ref ((B 0) 6)) (C := RX3) (T := TX3) (N := 4) hx hb hts i3 hown hK hP (14 * 0 + 0 + 11) (WIN_get (by decide) (by decide) rfl) rfl 3 (by decide) w9 (fun _ h9 => h9) rfl dX9_load_59 ?_
    refine va_get (D := D) (ci := 5) (v := .int (d2 0 7)) (C := RX5) (T := TX5) (N := 8) hx hb hts i5 hown hK hP (14 * 0 + 6 + 11) (WIN_get (by decide) (by decide) rfl) rfl 0 (by decide) w10 (fun _ h9 => h9) rfl dX9_load_62 ?_
    refine endI (r := (rd4 f0 ln (O 2, g)).2.1 0 7) (by first | (rw [hd2]; done) | (rw [hd2]; rfl)) ?_
    have hE : (WIN T v B (va_up (va_up O 2 d2) 0 d2) (rd5 f0 ln (O 2, g)) 0 0 nx pl f0 f1 (iter (fun k f => va_up f k 0) 2 0 f2) : va_W) = (WIN T v B (va_up (va_up O 2 ((rd4 f0 ln (O 2, g)).2.1)) 0 ((rd4 f0 ln (O 2, g)).2.1)) (rd5 f0 ln (O 2, g)) 0 0 nx pl f0 f1 (iter (fun k f => va_up f k 0) 2 0 f2)) := by rw [hd2]
    exact hret _ _ _ _ _ _ dX9_load_65 (by first | rfl | (simp only [orE, c14]; done) | (simp only [orE, c14] <;> simp [chkB, c14]; done) | (simp [orE, chkB, c14]; done) | ((first | have c14x := Int32.not_lt.mp c14 | have c14x := Int32.not_le.mp c14 | have c14x := Int32.not_lt.mpr c14 | have c14x := Int32.not_le.mpr c14 | have c14x := c14); simp [orE, chkB, c14, c14x]; done)) (by rw [← hE]; exact hP) (by rw [← hE]; exact hD) hS (by decide) (by decide)
  ·
    have c14 := bI_n0.mp c14
    exact vx_throwS (cls := "java/lang/IllegalArgumentException") (names := supL) (text := "the text has an error") (sa := aK 11) hx hb hl9 hown (by decide +kernel) (by decide +kernel) w1 w2 (show vk_R RX9 101 "the text has an error" (aK 11) s from hC.2.1 11 (by decide)) (vx_hat (B := badW "java/lang/IllegalArgumentException") (fun w hw => hts w (List.mem_cons_of_mem _ (List.mem_append_right _ hw))) tb_96 (hC.2.2.2.2.use (by decide +kernel))) tg_96 hC.2.2.1 hC.2.2.2.1 hS (hl.1.trans hml.symm) dX9_load_17 dX9_load_20 dX9_load_21 dX9_load_23 dX9_load_26 (fun x hx => (htab x hx).elim) (by decide) (Nat.le_of_ble_eq_true rfl) (Nat.le_of_ble_eq_true rfl) (Nat.le_of_ble_eq_true rfl) hlocks (fun t hv hz hk => hthr _ _ _ t (by first | rfl | (simp only [orE, c14]; done) | (simp only [orE, c14] <;> simp [chkB, c14]; done) | (simp [orE, chkB, c14]; done) | ((first | have c14x := Int32.not_lt.mp c14 | have c14x := Int32.not_le.mp c14 | have c14x := Int32.not_lt.mpr c14 | have c14x := Int32.not_le.mpr c14 | have c14x := c14); simp [orE, chkB, c14, c14x]; done)) (by rw [hd2]; exact hP) (by rw [hd2]; exact hD) hS hv hz hk) (fun z hz => hfr _ (hS.2.2 z hz)) (by decide) (by decide)

set_option maxHeartbeats 4000000 in
set_option maxRecDepth 100000 in
theorem c_X9_answersTonight (l : Launch) (D : va_G) (T : Nat → ClassId) (v : Nat → Nat) (B : Nat → Nat → Nat) (O : Nat → Nat → Nat → Int32) (g : CSt) (ln un nx pl : Nat) (f0 f1 f2 : Nat → Int32) (N : Nat) (K : Nat) (C : Nat) (nt : Nat) (hOI : OI (O 0) N K C nt) (sz : Nat) : Met l yX9_answersTonight wsX9_answersTonight ({ frames := 6, cells := 0, slots := 0, locals := 131 } : Room) (va_Pc [.ref (v 0)] (PS D T (WIN T v B O g ln un nx pl f0 f1 f2) sz)) (va_Qi (fun r9 (_ : Unit) => r9 = ((nightC N K C nt (O 0)).1)) (fun _ t => QS D T (va_A (WIN T v B O g ln un nx pl f0 f1 f2) sz) (WIN T v B (va_up O 1 ((nightC N K C nt (O 0)).2)) g ln un nx pl f0 f1 f2) t) (va_A (WIN T v B O g ln un nx pl f0 f1 f2) sz)) 0 0 (va_A (WIN T v B O g ln un nx pl f0 f1 f2) sz) := by
  refine metSi (cc := cX9_answersTonight) (maxL := 1) (ty := .int) (by decide) rfl (by rfl) (Nat.le_of_ble_eq_true rfl) ?_
  intro p e s m args below meth c Q ls A hx hb hml hown hts hP hK hD hA hS hl hret
  have hown : s.vm.findClass RX9 = some m.cls := hown
  have hl : lv_has ls 1 [(0, .ref (v 0))] := hl
  have i9 : ∀ w ∈ wsX90, w ∈ wsX9_answersTonight := by decide +kernel
  have w1 := hts (Cond.fieldLink RX9 23 "MoonComplaintWindow" "trial" "LMoonComplaintWindow$Office;") (List.mem_of_getElem? (i := 1) rfl)
  have w2 := hts (Cond.fieldLink RX9 19 "MoonComplaintWindow" "office" "LMoonComplaintWindow$Office;") (List.mem_of_getElem? (i := 2) rfl)
  obtain ⟨hN, hN2, hKn, hK2, hCn, hC1, hC2, hn, hnt, hSK⟩ := id hOI
  refine lv_aload_n hx hb dX9_answersTonight_0 rfl (lv_at hl 0 rfl) ?_
  refine va_get (D := D) (ci := 9) (v := .ref ((B 1) 0)) (C := RX9) (T := TX9) (N := 6) hx hb hts i9 hown hK hP 0 rfl rfl 2 (by decide) w1 (fun _ h9 => h9) rfl dX9_answersTonight_1 ?_
  refine lv_aload_n hx hb dX9_answersTonight_4 rfl (lv_at hl 0 rfl) ?_
  refine va_get (D := D) (ci := 9) (v := .ref ((B 0) 0)) (C := RX9) (T := TX9) (N := 6) hx hb hts i9 hown hK hP 0 rfl rfl 1 (by decide) w2 (fun _ h9 => h9) rfl dX9_answersTonight_5 ?_
  refine wrVv (As := [.ref ((B 0) 0)]) (rest := []) ⟨hx, hb, hml, hown, hts⟩ (c_X3_copyFrom l D T (B 1) (O 1) (B 0) (O 0) _) (cwV 1 hts gX9_answersTonight_X3_copyFrom rfl rfl rfl (by decide +kernel) ⟨Nat.le_of_ble_eq_true rfl, Nat.le_of_ble_eq_true rfl⟩) (WIN_off2 (i := 1) (j := 0) (by decide) (by decide) (by decide) ((O 0))) hK hP hD hS hA 0 rfl rfl rfl hl.1 rfl (Nat.le_of_ble_eq_true rfl) ⟨Nat.zero_le _, Nat.zero_le _⟩ dX9_answersTonight_8 (fun H locs hP hD hS => ?_)
  have hP : va_P D vwCl (WIN T v B (va_up O 1 ((O 0))) g ln un nx pl f0 f1 f2) H := hP
  have hD : va_D A (WIN T v B (va_up O 1 ((O 0))) g ln un nx pl f0 f1 f2) := hD
  refine lv_aload_n hx hb dX9_answersTonight_11 rfl (lv_at hl 0 rfl) ?_
  refine va_get (D := D) (ci := 9) (v := .ref ((B 1) 0)) (C := RX9) (T := TX9) (N := 6) hx hb hts i9 hown hK hP 0 rfl rfl 2 (by decide) w1 (fun _ h9 => h9) rfl dX9_answersTonight_12 ?_
  refine wrVi (As := []) (rest := []) ⟨hx, hb, hml, hown, hts⟩ (c_X3_endOneNight l D T (B 1) ((O 0)) N K C nt hN hN2 hKn hK2 hCn hC1 hC2 (by omega) hn hSK _) (cwV 0 hts gX9_answersTonight_X3_endOneNight rfl rfl rfl (by decide +kernel) ⟨Nat.le_of_ble_eq_true rfl, Nat.le_of_ble_eq_true rfl⟩) (WIN_off (j := 1) (by decide) ((nightC N K C nt ((O 0))).2)) hK hP hD hS hA 0 rfl rfl rfl hl.1 rfl (Nat.le_of_ble_eq_true rfl) ⟨Nat.zero_le _, Nat.zero_le _⟩ dX9_answersTonight_15 (fun H locs hP hD hS => ?_)
  rw [WIN_uu] at hP hD
  have hP : va_P D vwCl (WIN T v B (va_up O 1 ((nightC N K C nt ((O 0))).2)) g ln un nx pl f0 f1 f2) H := hP
  have hD : va_D A (WIN T v B (va_up O 1 ((nightC N K C nt ((O 0))).2)) g ln un nx pl f0 f1 f2) := hD
  refine endI (r := (nightC N K C nt (O 0)).1) (by rfl) ?_
  have hE : (WIN T v B (va_up O 1 ((nightC N K C nt ((O 0))).2)) g ln un nx pl f0 f1 f2 : va_W) = (WIN T v B (va_up O 1 ((nightC N K C nt (O 0)).2)) g ln un nx pl f0 f1 f2) := by rfl
  exact hret _ _ _ _ dX9_answersTonight_18 (by rw [← hE]; exact hP) (by rw [← hE]; exact hD) hS

set_option maxHeartbeats 4000000 in
set_option maxRecDepth 100000 in
theorem c_X9_tryUntilClosed (l : Launch) (D : va_G) (T : Nat → ClassId) (v : Nat → Nat) (B : Nat → Nat → Nat) (O : Nat → Nat → Nat → Int32) (g : CSt) (ln un nx pl : Nat) (f0 f1 f2 : Nat → Int32) (j : Nat) (N : Nat) (K : Nat) (C : Nat) (nt : Nat) (hOI : OI (O 0) N K C nt) (hj : j < 24) (hnt2 : nt < 2 ^ 17) (sz : Nat) : Met l yX9_tryUntilClosed wsX9_tryUntilClosed ({ frames := 6, cells := 0, slots := 0, locals := 131 } : Room) (va_Pc [.ref (v 0), .int (nI j)] (PS D T (WIN T v B O g ln un nx pl f0 f1 f2) sz)) (va_Qi (fun r9 (_ : Unit) => r9 = (nI (cUntil N K C j 56 nt (O 0)).1)) (fun _ t => QS D T (va_A (WIN T v B O g ln un nx pl f0 f1 f2) sz) (WIN T v B (va_up O 1 ((cUntil N K C j 56 nt (O 0)).2)) g ln un nx pl f0 f1 f2) t) (va_A (WIN T v B O g ln un nx pl f0 f1 f2) sz)) 0 0 (va_A (WIN T v B O g ln un nx pl f0 f1 f2) sz) := by
  refine metSi (cc := cX9_tryUntilClosed) (maxL := 3) (ty := .int) (by decide) rfl (by rfl) (Nat.le_of_ble_eq_true rfl) ?_
  intro p e s m args below meth c Q ls A hx hb hml hown hts hP hK hD hA hS hl hret
  have hown : s.vm.findClass RX9 = some m.cls := hown
  have hl : lv_has ls 3 [(0, .ref (v 0)), (1, .int (nI j))] := hl
  have i3 : ∀ w ∈ wsX30, w ∈ wsX9_tryUntilClosed := by decide +kernel
  have i5 : ∀ w ∈ wsX50, w ∈ wsX9_tryUntilClosed := by decide +kernel
  have i9 : ∀ w ∈ wsX90, w ∈ wsX9_tryUntilClosed := by decide +kernel
  have w1 := hts (Cond.fieldLink RX9 23 "MoonComplaintWindow" "trial" "LMoonComplaintWindow$Office;") (List.mem_of_getElem? (i := 1) rfl)
  have w2 := hts (Cond.fieldLink RX9 19 "MoonComplaintWindow" "office" "LMoonComplaintWindow$Office;") (List.mem_of_getElem? (i := 2) rfl)
  have w3 := hts (Cond.fieldLink RX9 107 "MoonComplaintWindow$Office" "pile" "LMoonComplaintWindow$Pile;") (List.mem_of_getElem? (i := 3) rfl)
  have w4 := hts (Cond.fieldLink RX9 188 "MoonComplaintWindow$Pile" "states" "[I") (List.mem_of_getElem? (i := 4) rfl)
  obtain ⟨hN, hN2, hKn, hK2, hCn, hC1, hC2, hn, hnt, hSK⟩ := id hOI
  refine lv_aload_n hx hb dX9_tryUntilClosed_0 rfl (lv_at hl 0 rfl) ?_
  refine va_get (D := D) (ci := 9) (v := .ref ((B 1) 0)) (C := RX9) (T := TX9) (N := 6) hx hb hts i9 hown hK hP 0 rfl rfl 2 (by decide) w1 (fun _ h9 => h9) rfl dX9_tryUntilClosed_1 ?_
  refine lv_aload_n hx hb dX9_tryUntilClosed_4 rfl (lv_at hl 0 rfl) ?_
  refine va_get (D := D) (ci := 9) (v := .ref ((B 0) 0)) (C := RX9) (T := TX9) (N := 6) hx hb hts i9 hown hK hP 0 rfl rfl 1 (by decide) w2 (fun _ h9 => h9) rfl dX9_tryUntilClosed_5 ?_
  refine wrVv (As := [.ref ((B 0) 0)]) (rest := []) ⟨hx, hb, hml, hown, hts⟩ (c_X3_copyFrom l D T (B 1) (O 1) (B 0) (O 0) _) (cwV 1 hts gX9_tryUntilClosed_X3_copyFrom rfl rfl rfl (by decide +kernel) ⟨Nat.le_of_ble_eq_true rfl, Nat.le_of_ble_eq_true rfl⟩) (WIN_off2 (i := 1) (j := 0) (by decide) (by decide) (by decide) ((O 0))) hK hP hD hS hA 0 rfl rfl rfl hl.1 rfl (Nat.le_of_ble_eq_true rfl) ⟨Nat.zero_le _, Nat.zero_le _⟩ dX9_tryUntilClosed_8 (fun H locs hP hD hS => ?_)
  have hP : va_P D vwCl (WIN T v B (va_up O 1 ((O 0))) g ln un nx pl f0 f1 f2) H := hP
  have hD : va_D A (WIN T v B (va_up O 1 ((O 0))) g ln un nx pl f0 f1 f2) := hD
  refine lv_iconst (v := 0) hx hb dX9_tryUntilClosed_11 (by decide) ?_
  refine lv_istore_n (lv' := [(2, .int (0)), (0, .ref (v 0)), (1, .int (nI j))]) hx hb dX9_tryUntilClosed_12 rfl hl (by decide) rfl (fun ls hl => ?_)
  have L13 : ∀ (n9 : Nat) (n : Nat) (o1 : Nat → Nat → Int32), (56 - n) < n9 → (n ≤ 56) → (n + (cUntil N K C j (56 - n) (nt + n) o1).1 = (cUntil N K C j 56 nt (O 0)).1) → ((cUntil N K C j (56 - n) (nt + n) o1).2 = (cUntil N K C j 56 nt (O 0)).2) → (OI o1 N K C (nt + n)) → ∀ (H : Heap) (locs : List Loc) (ls : Array Slot), va_P D vwCl (WIN T v B (va_up O 1 o1) g ln un nx pl f0 f1 f2) H → va_D A (WIN T v B (va_up O 1 o1) g ln un nx pl f0 f1 f2) → va_S A s.heap H locs → lv_has ls 3 [(2, .int (nI n)), (0, .ref (v 0)), (1, .int (nI j))] → W p l e ({ frames := 6, cells := 0, slots := 0, locals := 131 } : Room) s m args below meth c H locs 0 0 Q (F0 m 13 ls []) := by
    intro n9
    induction n9 with
    | zero => intro n o1 hm9; exact absurd hm9 (Nat.not_lt_zero _)
    | succ n9 ih =>
      intro n o1 hm9 hn9 hR1 hR2 hO1 H locs ls hP hD hS hl
      obtain ⟨kN, kN2, kKn, kK2, kCn, kC1, kC2, kn, knt, kSK⟩ := id hO1
      refine lv_iload_n hx hb dX9_tryUntilClosed_13 rfl (lv_at hl 0 rfl) ?_
      refine lv_bipush (v := 56) hx hb dX9_tryUntilClosed_14 (by decide) ?_
      refine lv_icmp_ge (tgt := 48) hx hb dX9_tryUntilClosed_16 (by decide) (fun c16 => ?_) (fun c16 => ?_)
      ·
        have c16 : 56 ≤ n := (nI_leI (a := 56) (b := n) (by omega) (by omega)).mp c16
        refine lv_iload_n hx hb dX9_tryUntilClosed_48 rfl (lv_at hl 0 rfl) ?_
        refine endI (r := nI (cUntil N K C j 56 nt (O 0)).1) (by first | (rw [show 56 - n = 0 from by omega] at hR1; rw [← hR1]; rfl) | (rw [cUntil_done c31] at hR1; rw [← hR1]; rfl)) ?_
        have hE : (WIN T v B (va_up O 1 o1) g ln un nx pl f0 f1 f2 : va_W) = (WIN T v B (va_up O 1 ((cUntil N K C j 56 nt (O 0)).2)) g ln un nx pl f0 f1 f2) := by first | (rw [show 56 - n = 0 from by omega] at hR2; rw [← hR2]; rfl) | (rw [cUntil_done c31] at hR2; rw [← hR2])
        exact hret _ _ _ _ dX9_tryUntilClosed_49 (by rw [← hE]; exact hP) (by rw [← hE]; exact hD) hS
      ·
        have c16 : ¬ 56 ≤ n := fun h9 => c16 ((nI_leI (a := 56) (b := n) (by omega) (by omega)).mpr h9)
        refine lv_aload_n hx hb dX9_tryUntilClosed_19 rfl (lv_at hl 1 rfl) ?_
        refine va_get (D := D) (ci := 9) (v := .ref ((B 1) 0)) (C := RX9) (T := TX9) (N := 6) hx hb hts i9 hown hK hP 0 rfl rfl 2 (by decide) w1 (fun _ h9 => h9) rfl dX9_tryUntilClosed_20 ?_
        refine va_get (D := D) (ci := 3) (v := .ref ((B 1) 6)) (C := RX3) (T := TX3) (N := 4) hx hb hts i3 hown hK hP (14 * 1 + 0 + 11) (WIN_get (by decide) (by decide) rfl) rfl 3 (by decide) w3 (fun _ h9 => h9) rfl dX9_tryUntilClosed_23 ?_
        refine va_get (D := D) (ci := 5) (v := .ref ((B 1) 11)) (C := RX5) (T := TX5) (N := 8) hx hb hts i5 hown hK hP (14 * 1 + 6 + 11) (WIN_get (by decide) (by decide) rfl) rfl 5 (by decide) w4 (fun _ h9 => h9) rfl dX9_tryUntilClosed_26 ?_
        refine lv_iload_n hx hb dX9_tryUntilClosed_29 rfl (lv_at hl 2 rfl) ?_
        refine aldI hx hb hK hP (14 * 1 + 11 + 11) 0 (WIN_get (by decide) (by decide) rfl) rfl (j) rfl (by omega) (by decide) dX9_tryUntilClosed_30 ?_
        refine endI (r := o1 8 j) rfl ?_
        refine lv_if_ne (tgt := 48) hx hb dX9_tryUntilClosed_31 (by decide) (fun c31 => ?_) (fun c31 => ?_)
        ·
          refine lv_iload_n hx hb dX9_tryUntilClosed_48 rfl (lv_at hl 0 rfl) ?_
          refine endI (r := nI (cUntil N K C j 56 nt (O 0)).1) (by first | (rw [show 56 - n = 0 from by omega] at hR1; rw [← hR1]; rfl) | (rw [cUntil_done c31] at hR1; rw [← hR1]; rfl)) ?_
          have hE : (WIN T v B (va_up O 1 o1) g ln un nx pl f0 f1 f2 : va_W) = (WIN T v B (va_up O 1 ((cUntil N K C j 56 nt (O 0)).2)) g ln un nx pl f0 f1 f2) := by first | (rw [show 56 - n = 0 from by omega] at hR2; rw [← hR2]; rfl) | (rw [cUntil_done c31] at hR2; rw [← hR2])
          exact hret _ _ _ _ dX9_tryUntilClosed_49 (by rw [← hE]; exact hP) (by rw [← hE]; exact hD) hS
        ·
          refine lv_aload_n hx hb dX9_tryUntilClosed_34 rfl (lv_at hl 1 rfl) ?_
          refine va_get (D := D) (ci := 9) (v := .ref ((B 1) 0)) (C := RX9) (T := TX9) (N := 6) hx hb hts i9 hown hK hP 0 rfl rfl 2 (by decide) w1 (fun _ h9 => h9) rfl dX9_tryUntilClosed_35 ?_
          refine wrVi (As := []) (rest := []) ⟨hx, hb, hml, hown, hts⟩ (c_X3_endOneNight l D T (B 1) o1 N K C (nt + n) kN kN2 kKn kK2 kCn kC1 kC2 (by omega) kn kSK _) (cwV 0 hts gX9_tryUntilClosed_X3_endOneNight rfl rfl rfl (by decide +kernel) ⟨Nat.le_of_ble_eq_true rfl, Nat.le_of_ble_eq_true rfl⟩) (WIN_off (j := 1) (by decide) ((nightC N K C (nt + n) o1).2)) hK hP hD hS hA 0 rfl rfl rfl hl.1 rfl (Nat.le_of_ble_eq_true rfl) ⟨Nat.zero_le _, Nat.zero_le _⟩ dX9_tryUntilClosed_38 (fun H locs hP hD hS => ?_)
          rw [WIN_uu] at hP hD
          have hP : va_P D vwCl (WIN T v B (va_up O 1 ((nightC N K C (nt + n) o1).2)) g ln un nx pl f0 f1 f2) H := hP
          have hD : va_D A (WIN T v B (va_up O 1 ((nightC N K C (nt + n) o1).2)) g ln un nx pl f0 f1 f2) := hD
          refine lv_pop hx hb dX9_tryUntilClosed_41 rfl ?_
          refine lv_iinc (v := nI (n + 1)) (lv' := [(2, .int (nI (n + 1))), (0, .ref (v 0)), (1, .int (nI j))]) hx hb dX9_tryUntilClosed_42 hl (k := 0) rfl (nI_1 _) (by decide) rfl (fun ls hl => ?_)
          refine lv_goto (tgt := 13) hx hb dX9_tryUntilClosed_45 (by decide) ?_
          exact ih (n + 1) ((nightC N K C (nt + n) o1).2) (by omega) (by omega) (by rw [show 56 - n = (56 - (n + 1)) + 1 from by omega, cUntil_step c31] at hR1; rw [← hR1]; show n + 1 + (cUntil N K C j (56 - (n + 1)) (nt + n + 1) _).1 = n + ((cUntil N K C j (56 - (n + 1)) (nt + n + 1) _).1 + 1); omega) (by rw [show 56 - n = (56 - (n + 1)) + 1 from by omega, cUntil_step c31] at hR2; exact hR2) (by exact hO1.night (by omega)) _ _ _ hP hD hS (lv_sub hl [0, 1, 2] rfl)
  exact L13 _ 0 ((O 0)) (Nat.lt_succ_self _) (by omega) (by exact Nat.zero_add _) (by rfl) (by exact hOI) _ _ _ hP hD hS (lv_sub hl [0, 1, 2] rfl)

set_option maxHeartbeats 4000000 in
set_option maxRecDepth 100000 in
theorem c_X9_nightsToClose (l : Launch) (hl9 : l.stackTraces = false) (D : va_G) (T : Nat → ClassId) (aK aV : Nat → Nat) (v : Nat → Nat) (B : Nat → Nat → Nat) (O : Nat → Nat → Nat → Int32) (g : CSt) (ln un nx pl : Nat) (f0 f1 f2 : Nat → Int32) (z : Int32) (N : Nat) (K : Nat) (C : Nat) (nt : Nat) (hOI : OI (O 0) N K C nt) (hnt2 : nt < 2 ^ 17) (sz : Nat) : vx_Met l yX9_nightsToClose wsX9_nightsToClose ({ frames := 7, cells := 2, slots := 12, locals := 153 } : Room) (va_Pc [.ref (v 0), .int (z)] (PSc D T aK aV (WIN T v B O g ln un nx pl f0 f1 f2) sz)) (va_Qi (fun r9 (_ : Unit) => (orE (chkB (inN z N) "java/lang/IndexOutOfBoundsException") (chkB (decide ((O 0) 8 z.toNatClampNeg = 0)) "java/lang/IllegalStateException")) = none ∧ r9 = (nI (cUntil N K C z.toNatClampNeg 56 nt (O 0)).1)) (fun _ t => QS D T (va_A (WIN T v B O g ln un nx pl f0 f1 f2) sz) (WIN T v B (va_up O 1 ((cUntil N K C z.toNatClampNeg 56 nt (O 0)).2)) g ln un nx pl f0 f1 f2) t) (va_A (WIN T v B O g ln un nx pl f0 f1 f2) sz)) (vx_X (fun (_ : Unit) => True) (fun E _ t => (orE (chkB (inN z N) "java/lang/IndexOutOfBoundsException") (chkB (decide ((O 0) 8 z.toNatClampNeg = 0)) "java/lang/IllegalStateException")) = some E ∧ QS D T (va_A (WIN T v B O g ln un nx pl f0 f1 f2) sz) (WIN T v B O g ln un nx pl f0 f1 f2) t) (va_A (WIN T v B O g ln un nx pl f0 f1 f2) sz)) 2 12 (va_A (WIN T v B O g ln un nx pl f0 f1 f2) sz) := by
  refine metXi (cc := cX9_nightsToClose) (maxL := 2) (ty := .int) (by decide) rfl (by rfl) (Nat.le_of_ble_eq_true rfl) ?_
  intro p e s m args below meth c Qc XC free ls A hx hb hml hown hts hC hP hK hD hA hS hl htab hlocks hfr hret hthr
  have hown : s.vm.findClass RX9 = some m.cls := hown
  have hl : lv_has ls 2 [(0, .ref (v 0)), (1, .int (z))] := hl
  obtain ⟨hN, hN2, hKn, hK2, hCn, hC1, hC2, hn, hnt, hSK⟩ := id hOI
  refine lv_aload_n hx hb dX9_nightsToClose_0 rfl (lv_at hl 0 rfl) ?_
  refine lv_iload_n hx hb dX9_nightsToClose_1 rfl (lv_at hl 1 rfl) ?_
  refine wxVv (As := [.int (z)]) (rest := []) ⟨hx, hb, hml, hown, hts⟩ (c_X9_checkComplaint l hl9 D T aK aV v B O g ln un nx pl f0 f1 f2 z N K C nt hOI _) (cwV 1 hts gX9_nightsToClose_X9_checkComplaint rfl rfl rfl (by decide +kernel) ⟨Nat.le_of_ble_eq_true rfl, Nat.le_of_ble_eq_true rfl⟩) (Foc.rfl _ _) (Foc.rfl _ _) hC hK hP hD hS hA 0 rfl rfl rfl hl.1 rfl (Nat.le_of_ble_eq_true rfl) ⟨Nat.le_of_ble_eq_true rfl, Nat.le_of_ble_eq_true rfl⟩ dX9_nightsToClose_2 (fun E ce q9 H1 locs1 hE hP1 hD1 hS1 hce hcv hcl => vx_out (fun x hx => (htab x hx).elim) hlocks hce hcv hcl (fun t ht hv => hthr H1 locs1 E t (by first | (rw [hE]; rfl) | (rw [x2, hjc]; exact hE)) hP1 hD1 hS1 hv (by rw [ht]; exact Nat.le_refl _) (fun q _ => by rw [ht])) (fun z hz => hfr _ (hS1.2.2 z hz)) (by decide) (by decide)) (fun H locs x2 hP hD hS => ?_)
  have hP : va_P D vwCl (WIN T v B O g ln un nx pl f0 f1 f2) H := hP
  have hD : va_D A (WIN T v B O g ln un nx pl f0 f1 f2) := hD
  have h2r := chkB_t x2
  obtain ⟨j, hj, hjz, hjc⟩ := inN_t (by omega) h2r
  rw [hjz] at hl
  have hl : lv_has ls 2 [(0, .ref (v 0)), (1, .int (nI j))] := hl
  refine lv_aload_n hx hb dX9_nightsToClose_5 rfl (lv_at hl 0 rfl) ?_
  refine lv_iload_n hx hb dX9_nightsToClose_6 rfl (lv_at hl 1 rfl) ?_
  refine wxVv (As := [.int (nI j)]) (rest := []) ⟨hx, hb, hml, hown, hts⟩ (c_X9_checkWaiting l hl9 D T aK aV v B O g ln un nx pl f0 f1 f2 j (by omega) _) (cwV 1 hts gX9_nightsToClose_X9_checkWaiting rfl rfl rfl (by decide +kernel) ⟨Nat.le_of_ble_eq_true rfl, Nat.le_of_ble_eq_true rfl⟩) (Foc.rfl _ _) (Foc.rfl _ _) hC hK hP hD hS hA 0 rfl rfl rfl hl.1 rfl (Nat.le_of_ble_eq_true rfl) ⟨Nat.le_of_ble_eq_true rfl, Nat.le_of_ble_eq_true rfl⟩ dX9_nightsToClose_7 (fun E ce q9 H1 locs1 hE hP1 hD1 hS1 hce hcv hcl => vx_out (fun x hx => (htab x hx).elim) hlocks hce hcv hcl (fun t ht hv => hthr H1 locs1 E t (by first | (rw [hE]; rfl) | (rw [x2, hjc]; exact hE)) hP1 hD1 hS1 hv (by rw [ht]; exact Nat.le_refl _) (fun q _ => by rw [ht])) (fun z hz => hfr _ (hS1.2.2 z hz)) (by decide) (by decide)) (fun H locs x7 hP hD hS => ?_)
  have hP : va_P D vwCl (WIN T v B O g ln un nx pl f0 f1 f2) H := hP
  have hD : va_D A (WIN T v B O g ln un nx pl f0 f1 f2) := hD
  refine lv_aload_n hx hb dX9_nightsToClose_10 rfl (lv_at hl 0 rfl) ?_
  refine lv_iload_n hx hb dX9_nightsToClose_11 rfl (lv_at hl 1 rfl) ?_
  refine wrVi (As := [.int (nI j)]) (rest := []) ⟨hx, hb, hml, hown, hts⟩ (c_X9_tryUntilClosed l D T v B O g ln un nx pl f0 f1 f2 j N K C nt hOI (by omega) hnt2 _) (cwV 1 hts gX9_nightsToClose_X9_tryUntilClosed rfl rfl rfl (by decide +kernel) ⟨Nat.le_of_ble_eq_true rfl, Nat.le_of_ble_eq_true rfl⟩) (Foc.rfl _ _) hK hP hD hS hA 0 rfl rfl rfl hl.1 rfl (Nat.le_of_ble_eq_true rfl) ⟨Nat.le_of_ble_eq_true rfl, Nat.le_of_ble_eq_true rfl⟩ dX9_nightsToClose_12 (fun H locs hP hD hS => ?_)
  have hP : va_P D vwCl (WIN T v B (va_up O 1 ((cUntil N K C j 56 nt (O 0)).2)) g ln un nx pl f0 f1 f2) H := hP
  have hD : va_D A (WIN T v B (va_up O 1 ((cUntil N K C j 56 nt (O 0)).2)) g ln un nx pl f0 f1 f2) := hD
  refine endI (r := nI (cUntil N K C z.toNatClampNeg 56 nt (O 0)).1) (by rw [hjc]) ?_
  have hE : (WIN T v B (va_up O 1 ((cUntil N K C j 56 nt (O 0)).2)) g ln un nx pl f0 f1 f2 : va_W) = (WIN T v B (va_up O 1 ((cUntil N K C z.toNatClampNeg 56 nt (O 0)).2)) g ln un nx pl f0 f1 f2) := by rw [hjc]
  exact hret _ _ _ _ _ _ dX9_nightsToClose_15 (by rw [x2, hjc]; first | exact x7 | exact hE) (by rw [← hE]; exact hP) (by rw [← hE]; exact hD) hS (by decide) (by decide)

set_option maxHeartbeats 4000000 in
set_option maxRecDepth 100000 in
theorem c_X9_willBeAnswered (l : Launch) (hl9 : l.stackTraces = false) (D : va_G) (T : Nat → ClassId) (aK aV : Nat → Nat) (v : Nat → Nat) (B : Nat → Nat → Nat) (O : Nat → Nat → Nat → Int32) (g : CSt) (ln un nx pl : Nat) (f0 f1 f2 : Nat → Int32) (z : Int32) (N : Nat) (K : Nat) (C : Nat) (nt : Nat) (hOI : OI (O 0) N K C nt) (hnt2 : nt < 2 ^ 17) (sz : Nat) : vx_Met l yX9_willBeAnswered wsX9_willBeAnswered ({ frames := 7, cells := 2, slots := 12, locals := 153 } : Room) (va_Pc [.ref (v 0), .int (z)] (PSc D T aK aV (WIN T v B O g ln un nx pl f0 f1 f2) sz)) (va_Qi (fun r9 (_ : Unit) => (orE (chkB (inN z N) "java/lang/IndexOutOfBoundsException") (chkB (decide ((O 0) 8 z.toNatClampNeg = 0)) "java/lang/IllegalStateException")) = none ∧ r9 = (bI (decide ((cUntil N K C z.toNatClampNeg 56 nt (O 0)).2 8 z.toNatClampNeg = 1)))) (fun _ t => QS D T (va_A (WIN T v B O g ln un nx pl f0 f1 f2) sz) (WIN T v B (va_up O 1 ((cUntil N K C z.toNatClampNeg 56 nt (O 0)).2)) g ln un nx pl f0 f1 f2) t) (va_A (WIN T v B O g ln un nx pl f0 f1 f2) sz)) (vx_X (fun (_ : Unit) => True) (fun E _ t => (orE (chkB (inN z N) "java/lang/IndexOutOfBoundsException") (chkB (decide ((O 0) 8 z.toNatClampNeg = 0)) "java/lang/IllegalStateException")) = some E ∧ QS D T (va_A (WIN T v B O g ln un nx pl f0 f1 f2) sz) (WIN T v B O g ln un nx pl f0 f1 f2) t) (va_A (WIN T v B O g ln un nx pl f0 f1 f2) sz)) 2 12 (va_A (WIN T v B O g ln un nx pl f0 f1 f2) sz) := by
  refine metXi (cc := cX9_willBeAnswered) (maxL := 2) (ty := .boolean) (by decide) rfl (by exact bI_nb _) (Nat.le_of_ble_eq_true rfl) ?_
  intro p e s m args below meth c Qc XC free ls A hx hb hml hown hts hC hP hK hD hA hS hl htab hlocks hfr hret hthr
  have hown : s.vm.findClass RX9 = some m.cls := hown
  have hl : lv_has ls 2 [(0, .ref (v 0)), (1, .int (z))] := hl
  have i3 : ∀ w ∈ wsX30, w ∈ wsX9_willBeAnswered := by decide +kernel
  have i5 : ∀ w ∈ wsX50, w ∈ wsX9_willBeAnswered := by decide +kernel
  have i9 : ∀ w ∈ wsX90, w ∈ wsX9_willBeAnswered := by decide +kernel
  have w1 := hts (Cond.fieldLink RX9 23 "MoonComplaintWindow" "trial" "LMoonComplaintWindow$Office;") (List.mem_of_getElem? (i := 1) rfl)
  have w2 := hts (Cond.fieldLink RX9 107 "MoonComplaintWindow$Office" "pile" "LMoonComplaintWindow$Pile;") (List.mem_of_getElem? (i := 2) rfl)
  have w3 := hts (Cond.fieldLink RX9 188 "MoonComplaintWindow$Pile" "states" "[I") (List.mem_of_getElem? (i := 3) rfl)
  obtain ⟨hN, hN2, hKn, hK2, hCn, hC1, hC2, hn, hnt, hSK⟩ := id hOI
  refine lv_aload_n hx hb dX9_willBeAnswered_0 rfl (lv_at hl 0 rfl) ?_
  refine lv_iload_n hx hb dX9_willBeAnswered_1 rfl (lv_at hl 1 rfl) ?_
  refine wxVv (As := [.int (z)]) (rest := []) ⟨hx, hb, hml, hown, hts⟩ (c_X9_checkComplaint l hl9 D T aK aV v B O g ln un nx pl f0 f1 f2 z N K C nt hOI _) (cwV 1 hts gX9_willBeAnswered_X9_checkComplaint rfl rfl rfl (by decide +kernel) ⟨Nat.le_of_ble_eq_true rfl, Nat.le_of_ble_eq_true rfl⟩) (Foc.rfl _ _) (Foc.rfl _ _) hC hK hP hD hS hA 0 rfl rfl rfl hl.1 rfl (Nat.le_of_ble_eq_true rfl) ⟨Nat.le_of_ble_eq_true rfl, Nat.le_of_ble_eq_true rfl⟩ dX9_willBeAnswered_2 (fun E ce q9 H1 locs1 hE hP1 hD1 hS1 hce hcv hcl => vx_out (fun x hx => (htab x hx).elim) hlocks hce hcv hcl (fun t ht hv => hthr H1 locs1 E t (by first | (rw [hE]; rfl) | (rw [x2, hjc]; exact hE)) hP1 hD1 hS1 hv (by rw [ht]; exact Nat.le_refl _) (fun q _ => by rw [ht])) (fun z hz => hfr _ (hS1.2.2 z hz)) (by decide) (by decide)) (fun H locs x2 hP hD hS => ?_)
  have hP : va_P D vwCl (WIN T v B O g ln un nx pl f0 f1 f2) H := hP
  have hD : va_D A (WIN T v B O g ln un nx pl f0 f1 f2) := hD
  have h2r := chkB_t x2
  obtain ⟨j, hj, hjz, hjc⟩ := inN_t (by omega) h2r
  rw [hjz] at hl
  have hl : lv_has ls 2 [(0, .ref (v 0)), (1, .int (nI j))] := hl
  refine lv_aload_n hx hb dX9_willBeAnswered_5 rfl (lv_at hl 0 rfl) ?_
  refine lv_iload_n hx hb dX9_willBeAnswered_6 rfl (lv_at hl 1 rfl) ?_
  refine wxVv (As := [.int (nI j)]) (rest := []) ⟨hx, hb, hml, hown, hts⟩ (c_X9_checkWaiting l hl9 D T aK aV v B O g ln un nx pl f0 f1 f2 j (by omega) _) (cwV 1 hts gX9_willBeAnswered_X9_checkWaiting rfl rfl rfl (by decide +kernel) ⟨Nat.le_of_ble_eq_true rfl, Nat.le_of_ble_eq_true rfl⟩) (Foc.rfl _ _) (Foc.rfl _ _) hC hK hP hD hS hA 0 rfl rfl rfl hl.1 rfl (Nat.le_of_ble_eq_true rfl) ⟨Nat.le_of_ble_eq_true rfl, Nat.le_of_ble_eq_true rfl⟩ dX9_willBeAnswered_7 (fun E ce q9 H1 locs1 hE hP1 hD1 hS1 hce hcv hcl => vx_out (fun x hx => (htab x hx).elim) hlocks hce hcv hcl (fun t ht hv => hthr H1 locs1 E t (by first | (rw [hE]; rfl) | (rw [x2, hjc]; exact hE)) hP1 hD1 hS1 hv (by rw [ht]; exact Nat.le_refl _) (fun q _ => by rw [ht])) (fun z hz => hfr _ (hS1.2.2 z hz)) (by decide) (by decide)) (fun H locs x7 hP hD hS => ?_)
  have hP : va_P D vwCl (WIN T v B O g ln un nx pl f0 f1 f2) H := hP
  have hD : va_D A (WIN T v B O g ln un nx pl f0 f1 f2) := hD
  refine lv_aload_n hx hb dX9_willBeAnswered_10 rfl (lv_at hl 0 rfl) ?_
  refine lv_iload_n hx hb dX9_willBeAnswered_11 rfl (lv_at hl 1 rfl) ?_
  refine wrVi (As := [.int (nI j)]) (rest := []) ⟨hx, hb, hml, hown, hts⟩ (c_X9_tryUntilClosed l D T v B O g ln un nx pl f0 f1 f2 j N K C nt hOI (by omega) hnt2 _) (cwV 1 hts gX9_willBeAnswered_X9_tryUntilClosed rfl rfl rfl (by decide +kernel) ⟨Nat.le_of_ble_eq_true rfl, Nat.le_of_ble_eq_true rfl⟩) (Foc.rfl _ _) hK hP hD hS hA 0 rfl rfl rfl hl.1 rfl (Nat.le_of_ble_eq_true rfl) ⟨Nat.le_of_ble_eq_true rfl, Nat.le_of_ble_eq_true rfl⟩ dX9_willBeAnswered_12 (fun H locs hP hD hS => ?_)
  have hP : va_P D vwCl (WIN T v B (va_up O 1 ((cUntil N K C j 56 nt (O 0)).2)) g ln un nx pl f0 f1 f2) H := hP
  have hD : va_D A (WIN T v B (va_up O 1 ((cUntil N K C j 56 nt (O 0)).2)) g ln un nx pl f0 f1 f2) := hD
  refine lv_pop hx hb dX9_willBeAnswered_15 rfl ?_
  refine lv_aload_n hx hb dX9_willBeAnswered_16 rfl (lv_at hl 0 rfl) ?_
  refine va_get (D := D) (ci := 9) (v := .ref ((B 1) 0)) (C := RX9) (T := TX9) (N := 6) hx hb hts i9 hown hK hP 0 rfl rfl 2 (by decide) w1 (fun _ h9 => h9) rfl dX9_willBeAnswered_17 ?_
  refine va_get (D := D) (ci := 3) (v := .ref ((B 1) 6)) (C := RX3) (T := TX3) (N := 4) hx hb hts i3 hown hK hP (14 * 1 + 0 + 11) (WIN_get (by decide) (by decide) rfl) rfl 3 (by decide) w2 (fun _ h9 => h9) rfl dX9_willBeAnswered_20 ?_
  refine va_get (D := D) (ci := 5) (v := .ref ((B 1) 11)) (C := RX5) (T := TX5) (N := 8) hx hb hts i5 hown hK hP (14 * 1 + 6 + 11) (WIN_get (by decide) (by decide) rfl) rfl 5 (by decide) w3 (fun _ h9 => h9) rfl dX9_willBeAnswered_23 ?_
  refine lv_iload_n hx hb dX9_willBeAnswered_26 rfl (lv_at hl 1 rfl) ?_
  refine aldI hx hb hK hP (14 * 1 + 11 + 11) 0 (WIN_get (by decide) (by decide) rfl) rfl (j) rfl (by omega) (by decide) dX9_willBeAnswered_27 ?_
  refine endI (r := (((cUntil N K C j 56 nt (O 0)).2) 8) j) rfl ?_
  refine lv_iconst (v := 1) hx hb dX9_willBeAnswered_28 (by decide) ?_
  refine lv_icmp_ne (tgt := 36) hx hb dX9_willBeAnswered_29 (by decide) (fun c29 => ?_) (fun c29 => ?_)
  ·
    refine lv_iconst (v := 0) hx hb dX9_willBeAnswered_36 (by decide) ?_
    refine endI (r := bI (decide ((cUntil N K C z.toNatClampNeg 56 nt (O 0)).2 8 z.toNatClampNeg = 1))) (by rw [hjc]; simp [bI, x2, x7, c29]) ?_
    have hE : (WIN T v B (va_up O 1 ((cUntil N K C j 56 nt (O 0)).2)) g ln un nx pl f0 f1 f2 : va_W) = (WIN T v B (va_up O 1 ((cUntil N K C z.toNatClampNeg 56 nt (O 0)).2)) g ln un nx pl f0 f1 f2) := by rw [hjc]
    exact hret _ _ _ _ _ _ dX9_willBeAnswered_37 (by rw [x2, hjc]; first | exact x7 | exact hE) (by rw [← hE]; exact hP) (by rw [← hE]; exact hD) hS (by decide) (by decide)
  ·
    refine lv_iconst (v := 1) hx hb dX9_willBeAnswered_32 (by decide) ?_
    refine lv_goto (tgt := 37) hx hb dX9_willBeAnswered_33 (by decide) ?_
    refine endI (r := bI (decide ((cUntil N K C z.toNatClampNeg 56 nt (O 0)).2 8 z.toNatClampNeg = 1))) (by rw [hjc]; simp [bI, x2, x7, c29]) ?_
    have hE : (WIN T v B (va_up O 1 ((cUntil N K C j 56 nt (O 0)).2)) g ln un nx pl f0 f1 f2 : va_W) = (WIN T v B (va_up O 1 ((cUntil N K C z.toNatClampNeg 56 nt (O 0)).2)) g ln un nx pl f0 f1 f2) := by rw [hjc]
    exact hret _ _ _ _ _ _ dX9_willBeAnswered_37 (by rw [x2, hjc]; first | exact x7 | exact hE) (by rw [← hE]; exact hP) (by rw [← hE]; exact hD) hS (by decide) (by decide)

set_option maxHeartbeats 4000000 in
set_option maxRecDepth 100000 in
theorem c_X9_fileComplaint (l : Launch) (hl9 : l.stackTraces = false) (D : va_G) (T : Nat → ClassId) (aK aV : Nat → Nat) (v : Nat → Nat) (B : Nat → Nat → Nat) (O : Nat → Nat → Nat → Int32) (g : CSt) (ln un nx pl : Nat) (f0 f1 f2 : Nat → Int32) (z : Int32) (z1 : Int32) (z2 : Int32) (N : Nat) (K : Nat) (C : Nat) (nt : Nat) (hOI : OI (O 0) N K C nt) (hu : un ≤ 8) (hnx : nx < 8) (sz : Nat) : vx_Met l yX9_fileComplaint wsX9_fileComplaint ({ frames := 8, cells := 4, slots := 24, locals := 132 } : Room) (va_Pc [.ref (v 0), .int (z), .int (z1), .int (z2)] (PSc D T aK aV (WIN T v B O g ln un nx pl f0 f1 f2) sz)) (va_Qi (fun r9 (_ : Unit) => (orE (chkB (rg z 0 99) "java/lang/IllegalArgumentException") (orE (chkB (rg z1 0 3) "java/lang/IllegalArgumentException") (orE (chkB (rg z2 1 9) "java/lang/IllegalArgumentException") (orE (chkB (decide (N < 24)) "java/lang/IllegalStateException") (chkB ((findC (O 0) z z1 N).isNone) "java/lang/IllegalStateException"))))) = none ∧ r9 = (nI N)) (fun _ t => QS D T (va_A (WIN T v B O g ln un nx pl f0 f1 f2) sz) (WIN T v B (va_up (va_up O (3 + nx) (O 0)) 0 (pileAdd (O 0) N z z1 z2 ((O 0) 0 0))) g ln (if un = 8 then 8 else un + 1) ((nx + 1) % 8) pl f0 f1 f2) t) (va_A (WIN T v B O g ln un nx pl f0 f1 f2) sz)) (vx_X (fun (_ : Unit) => True) (fun E _ t => (orE (chkB (rg z 0 99) "java/lang/IllegalArgumentException") (orE (chkB (rg z1 0 3) "java/lang/IllegalArgumentException") (orE (chkB (rg z2 1 9) "java/lang/IllegalArgumentException") (orE (chkB (decide (N < 24)) "java/lang/IllegalStateException") (chkB ((findC (O 0) z z1 N).isNone) "java/lang/IllegalStateException"))))) = some E ∧ QS D T (va_A (WIN T v B O g ln un nx pl f0 f1 f2) sz) (WIN T v B O g ln un nx pl f0 f1 f2) t) (va_A (WIN T v B O g ln un nx pl f0 f1 f2) sz)) 4 24 (va_A (WIN T v B O g ln un nx pl f0 f1 f2) sz) := by
  refine metXi (cc := cX9_fileComplaint) (maxL := 4) (ty := .int) (by decide) rfl (by rfl) (Nat.le_of_ble_eq_true rfl) ?_
  intro p e s m args below meth c Qc XC free ls A hx hb hml hown hts hC hP hK hD hA hS hl htab hlocks hfr hret hthr
  have hown : s.vm.findClass RX9 = some m.cls := hown
  have hl : lv_has ls 4 [(0, .ref (v 0)), (1, .int (z)), (2, .int (z1)), (3, .int (z2))] := hl
  have i3 : ∀ w ∈ wsX30, w ∈ wsX9_fileComplaint := by decide +kernel
  have i5 : ∀ w ∈ wsX50, w ∈ wsX9_fileComplaint := by decide +kernel
  have i9 : ∀ w ∈ wsX90, w ∈ wsX9_fileComplaint := by decide +kernel
  have w1 := hts (Cond.classLink RX9 82 "java/lang/IllegalStateException") (List.mem_of_getElem? (i := 1) rfl)
  have w2 := hts (Cond.initialized "java/lang/IllegalStateException") (List.mem_of_getElem? (i := 2) rfl)
  have w3 := hts (Cond.fieldLink RX9 19 "MoonComplaintWindow" "office" "LMoonComplaintWindow$Office;") (List.mem_of_getElem? (i := 3) rfl)
  have w4 := hts (Cond.fieldLink RX9 107 "MoonComplaintWindow$Office" "pile" "LMoonComplaintWindow$Pile;") (List.mem_of_getElem? (i := 4) rfl)
  have w5 := hts (Cond.fieldLink RX9 111 "MoonComplaintWindow$Pile" "total" "I") (List.mem_of_getElem? (i := 5) rfl)
  have w6 := hts (Cond.fieldLink RX9 29 "MoonComplaintWindow" "history" "LMoonComplaintWindow$History;") (List.mem_of_getElem? (i := 6) rfl)
  have w7 := hts (Cond.fieldLink RX9 124 "MoonComplaintWindow$Office" "night" "I") (List.mem_of_getElem? (i := 7) rfl)
  obtain ⟨hN, hN2, hKn, hK2, hCn, hC1, hC2, hn, hnt, hSK⟩ := id hOI
  refine lv_iload_n hx hb dX9_fileComplaint_0 rfl (lv_at hl 1 rfl) ?_
  refine lv_iconst (v := 0) hx hb dX9_fileComplaint_1 (by decide) ?_
  refine lv_bipush (v := 99) hx hb dX9_fileComplaint_2 (by decide) ?_
  refine wxSv (As := [.int (z), .int (0), .int (99)]) (rest := []) ⟨hx, hb, hml, hown, hts⟩ (c_X9_checkRange l hl9 D T aK aV z 0 99 _) (va_cwS 3 hts gX9_fileComplaint_X9_checkRange rfl rfl rfl (by decide +kernel) ⟨Nat.le_of_ble_eq_true rfl, Nat.le_of_ble_eq_true rfl⟩) (Foc.nil _) (Foc.nil _) hC hK hP hD hS hA rfl hl.1 rfl (Nat.le_of_ble_eq_true rfl) ⟨Nat.le_of_ble_eq_true rfl, Nat.le_of_ble_eq_true rfl⟩ dX9_fileComplaint_4 (fun E ce q9 H1 locs1 hE hP1 hD1 hS1 hce hcv hcl => vx_out (fun x hx => (htab x hx).elim) hlocks hce hcv hcl (fun t ht hv => hthr H1 locs1 E t (by first | exact hE | (simp only [orE, true_and, hE]; done) | (simp [orE, true_and, hE]; done)) hP1 hD1 hS1 hv (by rw [ht]; exact Nat.le_refl _) (fun q _ => by rw [ht])) (fun z hz => hfr _ (hS1.2.2 z hz)) (by decide) (by decide)) (fun H locs x4 hP hD hS => ?_)
  have hP : va_P D vwCl (WIN T v B O g ln un nx pl f0 f1 f2) H := hP
  have hD : va_D A (WIN T v B O g ln un nx pl f0 f1 f2) := hD
  refine lv_iload_n hx hb dX9_fileComplaint_7 rfl (lv_at hl 2 rfl) ?_
  refine wxSv (As := [.int (z1)]) (rest := []) ⟨hx, hb, hml, hown, hts⟩ (c_X9_checkSort l hl9 D T aK aV z1 _) (va_cwS 1 hts gX9_fileComplaint_X9_checkSort rfl rfl rfl (by decide +kernel) ⟨Nat.le_of_ble_eq_true rfl, Nat.le_of_ble_eq_true rfl⟩) (Foc.nil _) (Foc.nil _) hC hK hP hD hS hA rfl hl.1 rfl (Nat.le_of_ble_eq_true rfl) ⟨Nat.le_of_ble_eq_true rfl, Nat.le_of_ble_eq_true rfl⟩ dX9_fileComplaint_8 (fun E ce q9 H1 locs1 hE hP1 hD1 hS1 hce hcv hcl => vx_out (fun x hx => (htab x hx).elim) hlocks hce hcv hcl (fun t ht hv => hthr H1 locs1 E t (by first | exact hE | (simp only [orE, x4, hE]; done) | (simp [orE, x4, hE]; done)) hP1 hD1 hS1 hv (by rw [ht]; exact Nat.le_refl _) (fun q _ => by rw [ht])) (fun z hz => hfr _ (hS1.2.2 z hz)) (by decide) (by decide)) (fun H locs x8 hP hD hS => ?_)
  have hP : va_P D vwCl (WIN T v B O g ln un nx pl f0 f1 f2) H := hP
  have hD : va_D A (WIN T v B O g ln un nx pl f0 f1 f2) := hD
  refine lv_iload_n hx hb dX9_fileComplaint_11 rfl (lv_at hl 3 rfl) ?_
  refine lv_iconst (v := 1) hx hb dX9_fileComplaint_12 (by decide) ?_
  refine lv_bipush (v := 9) hx hb dX9_fileComplaint_13 (by decide) ?_
  refine wxSv (As := [.int (z2), .int (1), .int (9)]) (rest := []) ⟨hx, hb, hml, hown, hts⟩ (c_X9_checkRange l hl9 D T aK aV z2 1 9 _) (va_cwS 3 hts gX9_fileComplaint_X9_checkRange rfl rfl rfl (by decide +kernel) ⟨Nat.le_of_ble_eq_true rfl, Nat.le_of_ble_eq_true rfl⟩) (Foc.nil _) (Foc.nil _) hC hK hP hD hS hA rfl hl.1 rfl (Nat.le_of_ble_eq_true rfl) ⟨Nat.le_of_ble_eq_true rfl, Nat.le_of_ble_eq_true rfl⟩ dX9_fileComplaint_15 (fun E ce q9 H1 locs1 hE hP1 hD1 hS1 hce hcv hcl => vx_out (fun x hx => (htab x hx).elim) hlocks hce hcv hcl (fun t ht hv => hthr H1 locs1 E t (by first | exact hE | (simp only [orE, x4, x8, hE]; done) | (simp [orE, x4, x8, hE]; done)) hP1 hD1 hS1 hv (by rw [ht]; exact Nat.le_refl _) (fun q _ => by rw [ht])) (fun z hz => hfr _ (hS1.2.2 z hz)) (by decide) (by decide)) (fun H locs x15 hP hD hS => ?_)
  have hP : va_P D vwCl (WIN T v B O g ln un nx pl f0 f1 f2) H := hP
  have hD : va_D A (WIN T v B O g ln un nx pl f0 f1 f2) := hD
  refine lv_aload_n hx hb dX9_fileComplaint_18 rfl (lv_at hl 0 rfl) ?_
  refine va_get (D := D) (ci := 9) (v := .ref ((B 0) 0)) (C := RX9) (T := TX9) (N := 6) hx hb hts i9 hown hK hP 0 rfl rfl 1 (by decide) w3 (fun _ h9 => h9) rfl dX9_fileComplaint_19 ?_
  refine va_get (D := D) (ci := 3) (v := .ref ((B 0) 6)) (C := RX3) (T := TX3) (N := 4) hx hb hts i3 hown hK hP (14 * 0 + 0 + 11) (WIN_get (by decide) (by decide) rfl) rfl 3 (by decide) w4 (fun _ h9 => h9) rfl dX9_fileComplaint_22 ?_
  refine va_get (D := D) (ci := 5) (v := .int ((O 0) 0 7)) (C := RX5) (T := TX5) (N := 8) hx hb hts i5 hown hK hP (14 * 0 + 6 + 11) (WIN_get (by decide) (by decide) rfl) rfl 0 (by decide) w5 (fun _ h9 => h9) rfl dX9_fileComplaint_25 ?_
  refine endI (r := nI N) (hN) ?_
  refine lv_bipush (v := 24) hx hb dX9_fileComplaint_28 (by decide) ?_
  refine lv_icmp_lt (tgt := 44) hx hb dX9_fileComplaint_30 (by decide) (fun c30 => ?_) (fun c30 => ?_)
  ·
    have c30 : N < 24 := (nI_ltI (a := N) (b := 24) (by omega) (by omega)).mp c30
    refine lv_aload_n hx hb dX9_fileComplaint_44 rfl (lv_at hl 0 rfl) ?_
    refine va_get (D := D) (ci := 9) (v := .ref ((B 0) 0)) (C := RX9) (T := TX9) (N := 6) hx hb hts i9 hown hK hP 0 rfl rfl 1 (by decide) w3 (fun _ h9 => h9) rfl dX9_fileComplaint_45 ?_
    refine va_get (D := D) (ci := 3) (v := .ref ((B 0) 6)) (C := RX3) (T := TX3) (N := 4) hx hb hts i3 hown hK hP (14 * 0 + 0 + 11) (WIN_get (by decide) (by decide) rfl) rfl 3 (by decide) w4 (fun _ h9 => h9) rfl dX9_fileComplaint_48 ?_
    refine lv_iload_n hx hb dX9_fileComplaint_51 rfl (lv_at hl 1 rfl) ?_
    refine lv_iload_n hx hb dX9_fileComplaint_52 rfl (lv_at hl 2 rfl) ?_
    refine rdV (As := [.int (z), .int (z1)]) (rest := []) ⟨hx, hb, hml, hown, hts⟩ (c_X5_findWaiting l D T (B 0) (O 0) z z1 N hN hN2) (cwV 2 hts gX9_fileComplaint_X5_findWaiting rfl rfl rfl (by decide +kernel) ⟨Nat.le_of_ble_eq_true rfl, Nat.le_of_ble_eq_true rfl⟩) hK ((WIN_off (j := 0) (by decide) (O 0)).subP hP) 6 rfl rfl rfl hl.1 rfl (Nat.le_of_ble_eq_true rfl) ⟨Nat.le_of_ble_eq_true rfl, Nat.le_of_ble_eq_true rfl⟩ dX9_fileComplaint_53 ?_
    refine lv_iconst (v := -1) hx hb dX9_fileComplaint_56 (by decide) ?_
    refine lv_icmp_eq (tgt := 71) hx hb dX9_fileComplaint_57 (by decide) (fun c57 => ?_) (fun c57 => ?_)
    ·
      have hjj := (oI_m1 (fun j h => by have := (findC_lt h).1; omega)).mp c57
      refine lv_aload_n hx hb dX9_fileComplaint_71 rfl (lv_at hl 0 rfl) ?_
      refine va_get (D := D) (ci := 9) (v := .ref (v 4)) (C := RX9) (T := TX9) (N := 6) hx hb hts i9 hown hK hP 0 rfl rfl 3 (by decide) w6 (fun _ h9 => h9) rfl dX9_fileComplaint_72 ?_
      refine lv_aload_n hx hb dX9_fileComplaint_75 rfl (lv_at hl 0 rfl) ?_
      refine va_get (D := D) (ci := 9) (v := .ref ((B 0) 0)) (C := RX9) (T := TX9) (N := 6) hx hb hts i9 hown hK hP 0 rfl rfl 1 (by decide) w3 (fun _ h9 => h9) rfl dX9_fileComplaint_76 ?_
      refine wrVv (As := [.ref ((B 0) 0)]) (rest := []) ⟨hx, hb, hml, hown, hts⟩ (c_X0_push l D T v B O g ln un nx pl f0 f1 f2 hu hnx _) (cwV 1 hts gX9_fileComplaint_X0_push rfl rfl rfl (by decide +kernel) ⟨Nat.le_of_ble_eq_true rfl, Nat.le_of_ble_eq_true rfl⟩) (Foc.rfl _ _) hK hP hD hS hA 4 rfl rfl rfl hl.1 rfl (Nat.le_of_ble_eq_true rfl) ⟨Nat.le_of_ble_eq_true rfl, Nat.le_of_ble_eq_true rfl⟩ dX9_fileComplaint_79 (fun H locs hP hD hS => ?_)
      have hP : va_P D vwCl (WIN T v B (va_up O (3 + nx) (O 0)) g ln (if un = 8 then 8 else un + 1) ((nx + 1) % 8) pl f0 f1 f2) H := hP
      have hD : va_D A (WIN T v B (va_up O (3 + nx) (O 0)) g ln (if un = 8 then 8 else un + 1) ((nx + 1) % 8) pl f0 f1 f2) := hD
      generalize hO1 : va_up O (3 + nx) (O 0) = O1 at hP hD
      have hZ : O1 0 = O 0 := by rw [← hO1]; exact pushO_0 O nx (O 0)
      obtain ⟨hN1, -, hKn1, -, hCn1, -, -, hn1, -, hSK1⟩ := hOI.pushed hZ
      have hP : va_P D vwCl (WIN T v B O1 g ln (if un = 8 then 8 else un + 1) ((nx + 1) % 8) pl f0 f1 f2) H := hP
      have hD : va_D A (WIN T v B O1 g ln (if un = 8 then 8 else un + 1) ((nx + 1) % 8) pl f0 f1 f2) := hD
      refine lv_aload_n hx hb dX9_fileComplaint_82 rfl (lv_at hl 0 rfl) ?_
      refine va_get (D := D) (ci := 9) (v := .ref ((B 0) 0)) (C := RX9) (T := TX9) (N := 6) hx hb hts i9 hown hK hP 0 rfl rfl 1 (by decide) w3 (fun _ h9 => h9) rfl dX9_fileComplaint_83 ?_
      refine va_get (D := D) (ci := 3) (v := .ref ((B 0) 6)) (C := RX3) (T := TX3) (N := 4) hx hb hts i3 hown hK hP (14 * 0 + 0 + 11) (WIN_get (by decide) (by decide) rfl) rfl 3 (by decide) w4 (fun _ h9 => h9) rfl dX9_fileComplaint_86 ?_
      refine lv_iload_n hx hb dX9_fileComplaint_89 rfl (lv_at hl 1 rfl) ?_
      refine lv_iload_n hx hb dX9_fileComplaint_90 rfl (lv_at hl 2 rfl) ?_
      refine lv_iload_n hx hb dX9_fileComplaint_91 rfl (lv_at hl 3 rfl) ?_
      refine lv_aload_n hx hb dX9_fileComplaint_92 rfl (lv_at hl 0 rfl) ?_
      refine va_get (D := D) (ci := 9) (v := .ref ((B 0) 0)) (C := RX9) (T := TX9) (N := 6) hx hb hts i9 hown hK hP 0 rfl rfl 1 (by decide) w3 (fun _ h9 => h9) rfl dX9_fileComplaint_93 ?_
      refine va_get (D := D) (ci := 3) (v := .int ((O1 0) 0 0)) (C := RX3) (T := TX3) (N := 4) hx hb hts i3 hown hK hP (14 * 0 + 0 + 11) (WIN_get (by decide) (by decide) rfl) rfl 0 (by decide) w7 (fun _ h9 => h9) rfl dX9_fileComplaint_96 ?_
      refine endI (r := (O1 0) 0 0) (rfl) ?_
      refine wrVv (As := [.int (z), .int (z1), .int (z2), .int ((O1 0) 0 0)]) (rest := []) ⟨hx, hb, hml, hown, hts⟩ (c_X5_add l D T (B 0) (O1 0) z z1 z2 ((O1 0) 0 0) N hN1 (by omega) _) (cwV 4 hts gX9_fileComplaint_X5_add rfl rfl rfl (by decide +kernel) ⟨Nat.le_of_ble_eq_true rfl, Nat.le_of_ble_eq_true rfl⟩) (WIN_off (j := 0) (by decide) (pileAdd (O1 0) N z z1 z2 ((O1 0) 0 0))) hK hP hD hS hA 6 rfl rfl rfl hl.1 rfl (Nat.le_of_ble_eq_true rfl) ⟨Nat.le_of_ble_eq_true rfl, Nat.le_of_ble_eq_true rfl⟩ dX9_fileComplaint_99 (fun H locs hP hD hS => ?_)
      have hP : va_P D vwCl (WIN T v B (va_up O1 0 (pileAdd (O1 0) N z z1 z2 ((O1 0) 0 0))) g ln (if un = 8 then 8 else un + 1) ((nx + 1) % 8) pl f0 f1 f2) H := hP
      have hD : va_D A (WIN T v B (va_up O1 0 (pileAdd (O1 0) N z z1 z2 ((O1 0) 0 0))) g ln (if un = 8 then 8 else un + 1) ((nx + 1) % 8) pl f0 f1 f2) := hD
      refine lv_aload_n hx hb dX9_fileComplaint_102 rfl (lv_at hl 0 rfl) ?_
      refine va_get (D := D) (ci := 9) (v := .ref ((B 0) 0)) (C := RX9) (T := TX9) (N := 6) hx hb hts i9 hown hK hP 0 rfl rfl 1 (by decide) w3 (fun _ h9 => h9) rfl dX9_fileComplaint_103 ?_
      refine va_get (D := D) (ci := 3) (v := .ref ((B 0) 6)) (C := RX3) (T := TX3) (N := 4) hx hb hts i3 hown hK hP (14 * 0 + 0 + 11) (WIN_get (by decide) (by decide) rfl) rfl 3 (by decide) w4 (fun _ h9 => h9) rfl dX9_fileComplaint_106 ?_
      refine va_get (D := D) (ci := 5) (v := .int ((pileAdd (O1 0) N z z1 z2 ((O1 0) 0 0)) 0 7)) (C := RX5) (T := TX5) (N := 8) hx hb hts i5 hown hK hP (14 * 0 + 6 + 11) (WIN_get (by decide) (by decide) rfl) rfl 0 (by decide) w5 (fun _ h9 => h9) rfl dX9_fileComplaint_109 ?_
      refine lv_iconst (v := 1) hx hb dX9_fileComplaint_112 (by decide) ?_
      refine lv_isub hx hb dX9_fileComplaint_113 ?_
      refine endI (r := nI (N)) (pk_sub (a := N + 1) (b := 1) (by omega)) ?_
      refine endI (r := nI N) (by rfl) ?_
      have hE : (WIN T v B (va_up O1 0 (pileAdd (O1 0) N z z1 z2 ((O1 0) 0 0))) g ln (if un = 8 then 8 else un + 1) ((nx + 1) % 8) pl f0 f1 f2 : va_W) = (WIN T v B (va_up (va_up O (3 + nx) (O 0)) 0 (pileAdd (O 0) N z z1 z2 ((O 0) 0 0))) g ln (if un = 8 then 8 else un + 1) ((nx + 1) % 8) pl f0 f1 f2) := by rw [hZ, ← hO1]
      exact hret _ _ _ _ _ _ dX9_fileComplaint_114 (by first | (rw [x4, x8, x15, chkB_n (decide_eq_true c30), hjj]; rfl) | (rw [x4, x8, x15, chkB_f (decide_eq_false c30)]; rfl)) (by rw [← hE]; exact hP) (by rw [← hE]; exact hD) hS (by decide) (by decide)
    ·
      obtain ⟨jj, hjj⟩ : ∃ q, findC (O 0) z z1 N = some q := by
        cases h : findC (O 0) z z1 N with
        | none => exact absurd (by rw [h]; rfl) c57
        | some q => exact ⟨q, rfl⟩
      exact vx_throwSW (cls := "java/lang/IllegalStateException") (names := supL) (text := "the person has a waiting complaint of this sort") (sa := aK 20) hx hb hl9 hown (by decide +kernel) (by decide +kernel) w1 w2 (show vk_R RX9 271 "the person has a waiting complaint of this sort" (aK 20) s from hC.2.1 20 (by decide)) (vx_hat (B := badW "java/lang/IllegalStateException") (fun w hw => hts w (List.mem_cons_of_mem _ (List.mem_append_left _ (List.mem_append_right _ hw)))) tb_86 (hC.2.2.2.2.use (by decide +kernel))) tg_86 hC.2.2.1 hC.2.2.2.1 hS (hl.1.trans hml.symm) dX9_fileComplaint_60 dX9_fileComplaint_63 dX9_fileComplaint_64 dX9_fileComplaint_67 dX9_fileComplaint_70 (fun x hx => (htab x hx).elim) (by decide) (Nat.le_of_ble_eq_true rfl) (Nat.le_of_ble_eq_true rfl) (Nat.le_of_ble_eq_true rfl) hlocks (fun t hv hz hk => hthr _ _ _ t (by first | (rw [x4, x8, x15, chkB_n (decide_eq_true c30), hjj]; rfl) | (rw [x4, x8, x15, chkB_f (decide_eq_false c30)]; rfl)) hP hD hS hv hz hk) (fun z hz => hfr _ (hS.2.2 z hz)) (by decide) (by decide)
  ·
    have c30 : ¬ N < 24 := fun h9 => c30 ((nI_ltI (a := N) (b := 24) (by omega) (by omega)).mpr h9)
    exact vx_throwSW (cls := "java/lang/IllegalStateException") (names := supL) (text := "there are as many complaints as there may be") (sa := aK 19) hx hb hl9 hown (by decide +kernel) (by decide +kernel) w1 w2 (show vk_R RX9 269 "there are as many complaints as there may be" (aK 19) s from hC.2.1 19 (by decide)) (vx_hat (B := badW "java/lang/IllegalStateException") (fun w hw => hts w (List.mem_cons_of_mem _ (List.mem_append_left _ (List.mem_append_right _ hw)))) tb_86 (hC.2.2.2.2.use (by decide +kernel))) tg_86 hC.2.2.1 hC.2.2.2.1 hS (hl.1.trans hml.symm) dX9_fileComplaint_33 dX9_fileComplaint_36 dX9_fileComplaint_37 dX9_fileComplaint_40 dX9_fileComplaint_43 (fun x hx => (htab x hx).elim) (by decide) (Nat.le_of_ble_eq_true rfl) (Nat.le_of_ble_eq_true rfl) (Nat.le_of_ble_eq_true rfl) hlocks (fun t hv hz hk => hthr _ _ _ t (by first | (rw [x4, x8, x15, chkB_n (decide_eq_true c30), hjj]; rfl) | (rw [x4, x8, x15, chkB_f (decide_eq_false c30)]; rfl)) hP hD hS hv hz hk) (fun z hz => hfr _ (hS.2.2 z hz)) (by decide) (by decide)

set_option maxHeartbeats 4000000 in
set_option maxRecDepth 100000 in
theorem c_X9_giveUp (l : Launch) (hl9 : l.stackTraces = false) (D : va_G) (T : Nat → ClassId) (aK aV : Nat → Nat) (v : Nat → Nat) (B : Nat → Nat → Nat) (O : Nat → Nat → Nat → Int32) (g : CSt) (ln un nx pl : Nat) (f0 f1 f2 : Nat → Int32) (z : Int32) (N : Nat) (K : Nat) (C : Nat) (nt : Nat) (hOI : OI (O 0) N K C nt) (hu : un ≤ 8) (hnx : nx < 8) (sz : Nat) : vx_Met l yX9_giveUp wsX9_giveUp ({ frames := 7, cells := 2, slots := 12, locals := 111 } : Room) (va_Pc [.ref (v 0), .int (z)] (PSc D T aK aV (WIN T v B O g ln un nx pl f0 f1 f2) sz)) (va_Qi (fun r9 (_ : Unit) => (orE (chkB (inN z N) "java/lang/IndexOutOfBoundsException") (chkB (decide ((O 0) 8 z.toNatClampNeg = 0)) "java/lang/IllegalStateException")) = none ∧ r9 = ((O 0) 0 0 - (O 0) 7 z.toNatClampNeg)) (fun _ t => QS D T (va_A (WIN T v B O g ln un nx pl f0 f1 f2) sz) (WIN T v B (va_up (va_up O (3 + nx) (O 0)) 0 (pileClose (O 0) z.toNatClampNeg 3 ((O 0) 0 0) (-1))) g ln (if un = 8 then 8 else un + 1) ((nx + 1) % 8) pl f0 f1 f2) t) (va_A (WIN T v B O g ln un nx pl f0 f1 f2) sz)) (vx_X (fun (_ : Unit) => True) (fun E _ t => (orE (chkB (inN z N) "java/lang/IndexOutOfBoundsException") (chkB (decide ((O 0) 8 z.toNatClampNeg = 0)) "java/lang/IllegalStateException")) = some E ∧ QS D T (va_A (WIN T v B O g ln un nx pl f0 f1 f2) sz) (WIN T v B O g ln un nx pl f0 f1 f2) t) (va_A (WIN T v B O g ln un nx pl f0 f1 f2) sz)) 2 12 (va_A (WIN T v B O g ln un nx pl f0 f1 f2) sz) := by
  refine metXi (cc := cX9_giveUp) (maxL := 2) (ty := .int) (by decide) rfl (by rfl) (Nat.le_of_ble_eq_true rfl) ?_
  intro p e s m args below meth c Qc XC free ls A hx hb hml hown hts hC hP hK hD hA hS hl htab hlocks hfr hret hthr
  have hown : s.vm.findClass RX9 = some m.cls := hown
  have hl : lv_has ls 2 [(0, .ref (v 0)), (1, .int (z))] := hl
  have i3 : ∀ w ∈ wsX30, w ∈ wsX9_giveUp := by decide +kernel
  have i5 : ∀ w ∈ wsX50, w ∈ wsX9_giveUp := by decide +kernel
  have i9 : ∀ w ∈ wsX90, w ∈ wsX9_giveUp := by decide +kernel
  have w1 := hts (Cond.fieldLink RX9 29 "MoonComplaintWindow" "history" "LMoonComplaintWindow$History;") (List.mem_of_getElem? (i := 1) rfl)
  have w2 := hts (Cond.fieldLink RX9 19 "MoonComplaintWindow" "office" "LMoonComplaintWindow$Office;") (List.mem_of_getElem? (i := 2) rfl)
  have w3 := hts (Cond.fieldLink RX9 107 "MoonComplaintWindow$Office" "pile" "LMoonComplaintWindow$Pile;") (List.mem_of_getElem? (i := 3) rfl)
  have w4 := hts (Cond.fieldLink RX9 124 "MoonComplaintWindow$Office" "night" "I") (List.mem_of_getElem? (i := 4) rfl)
  have w5 := hts (Cond.fieldLink RX9 185 "MoonComplaintWindow$Pile" "filed" "[I") (List.mem_of_getElem? (i := 5) rfl)
  obtain ⟨hN, hN2, hKn, hK2, hCn, hC1, hC2, hn, hnt, hSK⟩ := id hOI
  refine lv_aload_n hx hb dX9_giveUp_0 rfl (lv_at hl 0 rfl) ?_
  refine lv_iload_n hx hb dX9_giveUp_1 rfl (lv_at hl 1 rfl) ?_
  refine wxVv (As := [.int (z)]) (rest := []) ⟨hx, hb, hml, hown, hts⟩ (c_X9_checkComplaint l hl9 D T aK aV v B O g ln un nx pl f0 f1 f2 z N K C nt hOI _) (cwV 1 hts gX9_giveUp_X9_checkComplaint rfl rfl rfl (by decide +kernel) ⟨Nat.le_of_ble_eq_true rfl, Nat.le_of_ble_eq_true rfl⟩) (Foc.rfl _ _) (Foc.rfl _ _) hC hK hP hD hS hA 0 rfl rfl rfl hl.1 rfl (Nat.le_of_ble_eq_true rfl) ⟨Nat.le_of_ble_eq_true rfl, Nat.le_of_ble_eq_true rfl⟩ dX9_giveUp_2 (fun E ce q9 H1 locs1 hE hP1 hD1 hS1 hce hcv hcl => vx_out (fun x hx => (htab x hx).elim) hlocks hce hcv hcl (fun t ht hv => hthr H1 locs1 E t (by first | (rw [hE]; rfl) | (rw [x2, hjc]; exact hE)) hP1 hD1 hS1 hv (by rw [ht]; exact Nat.le_refl _) (fun q _ => by rw [ht])) (fun z hz => hfr _ (hS1.2.2 z hz)) (by decide) (by decide)) (fun H locs x2 hP hD hS => ?_)
  have hP : va_P D vwCl (WIN T v B O g ln un nx pl f0 f1 f2) H := hP
  have hD : va_D A (WIN T v B O g ln un nx pl f0 f1 f2) := hD
  have h2r := chkB_t x2
  obtain ⟨j, hj, hjz, hjc⟩ := inN_t (by omega) h2r
  rw [hjz] at hl
  have hl : lv_has ls 2 [(0, .ref (v 0)), (1, .int (nI j))] := hl
  refine lv_aload_n hx hb dX9_giveUp_5 rfl (lv_at hl 0 rfl) ?_
  refine lv_iload_n hx hb dX9_giveUp_6 rfl (lv_at hl 1 rfl) ?_
  refine wxVv (As := [.int (nI j)]) (rest := []) ⟨hx, hb, hml, hown, hts⟩ (c_X9_checkWaiting l hl9 D T aK aV v B O g ln un nx pl f0 f1 f2 j (by omega) _) (cwV 1 hts gX9_giveUp_X9_checkWaiting rfl rfl rfl (by decide +kernel) ⟨Nat.le_of_ble_eq_true rfl, Nat.le_of_ble_eq_true rfl⟩) (Foc.rfl _ _) (Foc.rfl _ _) hC hK hP hD hS hA 0 rfl rfl rfl hl.1 rfl (Nat.le_of_ble_eq_true rfl) ⟨Nat.le_of_ble_eq_true rfl, Nat.le_of_ble_eq_true rfl⟩ dX9_giveUp_7 (fun E ce q9 H1 locs1 hE hP1 hD1 hS1 hce hcv hcl => vx_out (fun x hx => (htab x hx).elim) hlocks hce hcv hcl (fun t ht hv => hthr H1 locs1 E t (by first | (rw [hE]; rfl) | (rw [x2, hjc]; exact hE)) hP1 hD1 hS1 hv (by rw [ht]; exact Nat.le_refl _) (fun q _ => by rw [ht])) (fun z hz => hfr _ (hS1.2.2 z hz)) (by decide) (by decide)) (fun H locs x7 hP hD hS => ?_)
  have hP : va_P D vwCl (WIN T v B O g ln un nx pl f0 f1 f2) H := hP
  have hD : va_D A (WIN T v B O g ln un nx pl f0 f1 f2) := hD
  refine lv_aload_n hx hb dX9_giveUp_10 rfl (lv_at hl 0 rfl) ?_
  refine va_get (D := D) (ci := 9) (v := .ref (v 4)) (C := RX9) (T := TX9) (N := 6) hx hb hts i9 hown hK hP 0 rfl rfl 3 (by decide) w1 (fun _ h9 => h9) rfl dX9_giveUp_11 ?_
  refine lv_aload_n hx hb dX9_giveUp_14 rfl (lv_at hl 0 rfl) ?_
  refine va_get (D := D) (ci := 9) (v := .ref ((B 0) 0)) (C := RX9) (T := TX9) (N := 6) hx hb hts i9 hown hK hP 0 rfl rfl 1 (by decide) w2 (fun _ h9 => h9) rfl dX9_giveUp_15 ?_
  refine wrVv (As := [.ref ((B 0) 0)]) (rest := []) ⟨hx, hb, hml, hown, hts⟩ (c_X0_push l D T v B O g ln un nx pl f0 f1 f2 hu hnx _) (cwV 1 hts gX9_giveUp_X0_push rfl rfl rfl (by decide +kernel) ⟨Nat.le_of_ble_eq_true rfl, Nat.le_of_ble_eq_true rfl⟩) (Foc.rfl _ _) hK hP hD hS hA 4 rfl rfl rfl hl.1 rfl (Nat.le_of_ble_eq_true rfl) ⟨Nat.le_of_ble_eq_true rfl, Nat.le_of_ble_eq_true rfl⟩ dX9_giveUp_18 (fun H locs hP hD hS => ?_)
  have hP : va_P D vwCl (WIN T v B (va_up O (3 + nx) (O 0)) g ln (if un = 8 then 8 else un + 1) ((nx + 1) % 8) pl f0 f1 f2) H := hP
  have hD : va_D A (WIN T v B (va_up O (3 + nx) (O 0)) g ln (if un = 8 then 8 else un + 1) ((nx + 1) % 8) pl f0 f1 f2) := hD
  generalize hO1 : va_up O (3 + nx) (O 0) = O1 at hP hD
  have hZ : O1 0 = O 0 := by rw [← hO1]; exact pushO_0 O nx (O 0)
  obtain ⟨hN1, -, hKn1, -, hCn1, -, -, hn1, -, hSK1⟩ := hOI.pushed hZ
  have hP : va_P D vwCl (WIN T v B O1 g ln (if un = 8 then 8 else un + 1) ((nx + 1) % 8) pl f0 f1 f2) H := hP
  have hD : va_D A (WIN T v B O1 g ln (if un = 8 then 8 else un + 1) ((nx + 1) % 8) pl f0 f1 f2) := hD
  refine lv_aload_n hx hb dX9_giveUp_21 rfl (lv_at hl 0 rfl) ?_
  refine va_get (D := D) (ci := 9) (v := .ref ((B 0) 0)) (C := RX9) (T := TX9) (N := 6) hx hb hts i9 hown hK hP 0 rfl rfl 1 (by decide) w2 (fun _ h9 => h9) rfl dX9_giveUp_22 ?_
  refine va_get (D := D) (ci := 3) (v := .ref ((B 0) 6)) (C := RX3) (T := TX3) (N := 4) hx hb hts i3 hown hK hP (14 * 0 + 0 + 11) (WIN_get (by decide) (by decide) rfl) rfl 3 (by decide) w3 (fun _ h9 => h9) rfl dX9_giveUp_25 ?_
  refine lv_iload_n hx hb dX9_giveUp_28 rfl (lv_at hl 1 rfl) ?_
  refine lv_iconst (v := 3) hx hb dX9_giveUp_29 (by decide) ?_
  refine lv_aload_n hx hb dX9_giveUp_30 rfl (lv_at hl 0 rfl) ?_
  refine va_get (D := D) (ci := 9) (v := .ref ((B 0) 0)) (C := RX9) (T := TX9) (N := 6) hx hb hts i9 hown hK hP 0 rfl rfl 1 (by decide) w2 (fun _ h9 => h9) rfl dX9_giveUp_31 ?_
  refine va_get (D := D) (ci := 3) (v := .int ((O1 0) 0 0)) (C := RX3) (T := TX3) (N := 4) hx hb hts i3 hown hK hP (14 * 0 + 0 + 11) (WIN_get (by decide) (by decide) rfl) rfl 0 (by decide) w4 (fun _ h9 => h9) rfl dX9_giveUp_34 ?_
  refine endI (r := (O1 0) 0 0) (rfl) ?_
  refine lv_iconst (v := -1) hx hb dX9_giveUp_37 (by decide) ?_
  refine wrVv (As := [.int (nI j), .int (3), .int ((O1 0) 0 0), .int (-1)]) (rest := []) ⟨hx, hb, hml, hown, hts⟩ (c_X5_close l D T (B 0) (O1 0) j 3 ((O1 0) 0 0) (-1) N hN1 hN2 (by omega) _) (cwV 4 hts gX9_giveUp_X5_close rfl rfl rfl (by decide +kernel) ⟨Nat.le_of_ble_eq_true rfl, Nat.le_of_ble_eq_true rfl⟩) (WIN_off (j := 0) (by decide) (pileClose (O1 0) j 3 ((O1 0) 0 0) (-1))) hK hP hD hS hA 6 rfl rfl rfl hl.1 rfl (Nat.le_of_ble_eq_true rfl) ⟨Nat.le_of_ble_eq_true rfl, Nat.le_of_ble_eq_true rfl⟩ dX9_giveUp_38 (fun H locs hP hD hS => ?_)
  have hP : va_P D vwCl (WIN T v B (va_up O1 0 (pileClose (O1 0) j 3 ((O1 0) 0 0) (-1))) g ln (if un = 8 then 8 else un + 1) ((nx + 1) % 8) pl f0 f1 f2) H := hP
  have hD : va_D A (WIN T v B (va_up O1 0 (pileClose (O1 0) j 3 ((O1 0) 0 0) (-1))) g ln (if un = 8 then 8 else un + 1) ((nx + 1) % 8) pl f0 f1 f2) := hD
  refine lv_aload_n hx hb dX9_giveUp_41 rfl (lv_at hl 0 rfl) ?_
  refine va_get (D := D) (ci := 9) (v := .ref ((B 0) 0)) (C := RX9) (T := TX9) (N := 6) hx hb hts i9 hown hK hP 0 rfl rfl 1 (by decide) w2 (fun _ h9 => h9) rfl dX9_giveUp_42 ?_
  refine va_get (D := D) (ci := 3) (v := .int ((pileClose (O1 0) j 3 ((O1 0) 0 0) (-1)) 0 0)) (C := RX3) (T := TX3) (N := 4) hx hb hts i3 hown hK hP (14 * 0 + 0 + 11) (WIN_get (by decide) (by decide) rfl) rfl 0 (by decide) w4 (fun _ h9 => h9) rfl dX9_giveUp_45 ?_
  refine lv_aload_n hx hb dX9_giveUp_48 rfl (lv_at hl 0 rfl) ?_
  refine va_get (D := D) (ci := 9) (v := .ref ((B 0) 0)) (C := RX9) (T := TX9) (N := 6) hx hb hts i9 hown hK hP 0 rfl rfl 1 (by decide) w2 (fun _ h9 => h9) rfl dX9_giveUp_49 ?_
  refine va_get (D := D) (ci := 3) (v := .ref ((B 0) 6)) (C := RX3) (T := TX3) (N := 4) hx hb hts i3 hown hK hP (14 * 0 + 0 + 11) (WIN_get (by decide) (by decide) rfl) rfl 3 (by decide) w3 (fun _ h9 => h9) rfl dX9_giveUp_52 ?_
  refine va_get (D := D) (ci := 5) (v := .ref ((B 0) 10)) (C := RX5) (T := TX5) (N := 8) hx hb hts i5 hown hK hP (14 * 0 + 6 + 11) (WIN_get (by decide) (by decide) rfl) rfl 4 (by decide) w5 (fun _ h9 => h9) rfl dX9_giveUp_55 ?_
  refine lv_iload_n hx hb dX9_giveUp_58 rfl (lv_at hl 1 rfl) ?_
  refine aldI hx hb hK hP (14 * 0 + 10 + 11) 0 (WIN_get (by decide) (by decide) rfl) rfl (j) rfl (by omega) (by decide) dX9_giveUp_59 ?_
  refine endI (r := ((pileClose (O1 0) j 3 ((O1 0) 0 0) (-1)) 7) j) rfl ?_
  refine lv_isub hx hb dX9_giveUp_60 ?_
  refine endI (r := (O 0) 0 0 - (O 0) 7 z.toNatClampNeg) (by rw [hjc, ← hZ]; rfl) ?_
  have hE : (WIN T v B (va_up O1 0 (pileClose (O1 0) j 3 ((O1 0) 0 0) (-1))) g ln (if un = 8 then 8 else un + 1) ((nx + 1) % 8) pl f0 f1 f2 : va_W) = (WIN T v B (va_up (va_up O (3 + nx) (O 0)) 0 (pileClose (O 0) z.toNatClampNeg 3 ((O 0) 0 0) (-1))) g ln (if un = 8 then 8 else un + 1) ((nx + 1) % 8) pl f0 f1 f2) := by rw [hjc, hZ, ← hO1]
  exact hret _ _ _ _ _ _ dX9_giveUp_61 (by rw [x2, hjc]; first | exact x7 | exact hE) (by rw [← hE]; exact hP) (by rw [← hE]; exact hD) hS (by decide) (by decide)

set_option maxHeartbeats 4000000 in
set_option maxRecDepth 100000 in
theorem c_X9_addClerk (l : Launch) (hl9 : l.stackTraces = false) (D : va_G) (T : Nat → ClassId) (aK aV : Nat → Nat) (v : Nat → Nat) (B : Nat → Nat → Nat) (O : Nat → Nat → Nat → Int32) (g : CSt) (ln un nx pl : Nat) (f0 f1 f2 : Nat → Int32) (z : Int32) (z1 : Int32) (N : Nat) (K : Nat) (C : Nat) (nt : Nat) (hOI : OI (O 0) N K C nt) (hu : un ≤ 8) (hnx : nx < 8) (sz : Nat) : vx_Met l yX9_addClerk wsX9_addClerk ({ frames := 7, cells := 3, slots := 18, locals := 112 } : Room) (va_Pc [.ref (v 0), .int (z), .int (z1)] (PSc D T aK aV (WIN T v B O g ln un nx pl f0 f1 f2) sz)) (va_Qi (fun r9 (_ : Unit) => (orE (chkB (rg z 1 9) "java/lang/IllegalArgumentException") (orE (chkB (rg z1 0 99) "java/lang/IllegalArgumentException") (chkB (decide (K < 5)) "java/lang/IllegalStateException"))) = none ∧ r9 = (nI K)) (fun _ t => QS D T (va_A (WIN T v B O g ln un nx pl f0 f1 f2) sz) (WIN T v B (va_up (va_up O (3 + nx) (O 0)) 0 (staffAdd (O 0) K z z1)) g ln (if un = 8 then 8 else un + 1) ((nx + 1) % 8) pl f0 f1 f2) t) (va_A (WIN T v B O g ln un nx pl f0 f1 f2) sz)) (vx_X (fun (_ : Unit) => True) (fun E _ t => (orE (chkB (rg z 1 9) "java/lang/IllegalArgumentException") (orE (chkB (rg z1 0 99) "java/lang/IllegalArgumentException") (chkB (decide (K < 5)) "java/lang/IllegalStateException"))) = some E ∧ QS D T (va_A (WIN T v B O g ln un nx pl f0 f1 f2) sz) (WIN T v B O g ln un nx pl f0 f1 f2) t) (va_A (WIN T v B O g ln un nx pl f0 f1 f2) sz)) 3 18 (va_A (WIN T v B O g ln un nx pl f0 f1 f2) sz) := by
  refine metXi (cc := cX9_addClerk) (maxL := 3) (ty := .int) (by decide) rfl (by rfl) (Nat.le_of_ble_eq_true rfl) ?_
  intro p e s m args below meth c Qc XC free ls A hx hb hml hown hts hC hP hK hD hA hS hl htab hlocks hfr hret hthr
  have hown : s.vm.findClass RX9 = some m.cls := hown
  have hl : lv_has ls 3 [(0, .ref (v 0)), (1, .int (z)), (2, .int (z1))] := hl
  have i3 : ∀ w ∈ wsX30, w ∈ wsX9_addClerk := by decide +kernel
  have i8 : ∀ w ∈ wsX80, w ∈ wsX9_addClerk := by decide +kernel
  have i9 : ∀ w ∈ wsX90, w ∈ wsX9_addClerk := by decide +kernel
  have w1 := hts (Cond.classLink RX9 82 "java/lang/IllegalStateException") (List.mem_of_getElem? (i := 1) rfl)
  have w2 := hts (Cond.initialized "java/lang/IllegalStateException") (List.mem_of_getElem? (i := 2) rfl)
  have w3 := hts (Cond.fieldLink RX9 19 "MoonComplaintWindow" "office" "LMoonComplaintWindow$Office;") (List.mem_of_getElem? (i := 3) rfl)
  have w4 := hts (Cond.fieldLink RX9 224 "MoonComplaintWindow$Office" "staff" "LMoonComplaintWindow$Staff;") (List.mem_of_getElem? (i := 4) rfl)
  have w5 := hts (Cond.fieldLink RX9 228 "MoonComplaintWindow$Staff" "total" "I") (List.mem_of_getElem? (i := 5) rfl)
  have w6 := hts (Cond.fieldLink RX9 29 "MoonComplaintWindow" "history" "LMoonComplaintWindow$History;") (List.mem_of_getElem? (i := 6) rfl)
  obtain ⟨hN, hN2, hKn, hK2, hCn, hC1, hC2, hn, hnt, hSK⟩ := id hOI
  refine lv_iload_n hx hb dX9_addClerk_0 rfl (lv_at hl 1 rfl) ?_
  refine lv_iconst (v := 1) hx hb dX9_addClerk_1 (by decide) ?_
  refine lv_bipush (v := 9) hx hb dX9_addClerk_2 (by decide) ?_
  refine wxSv (As := [.int (z), .int (1), .int (9)]) (rest := []) ⟨hx, hb, hml, hown, hts⟩ (c_X9_checkRange l hl9 D T aK aV z 1 9 _) (va_cwS 3 hts gX9_addClerk_X9_checkRange rfl rfl rfl (by decide +kernel) ⟨Nat.le_of_ble_eq_true rfl, Nat.le_of_ble_eq_true rfl⟩) (Foc.nil _) (Foc.nil _) hC hK hP hD hS hA rfl hl.1 rfl (Nat.le_of_ble_eq_true rfl) ⟨Nat.le_of_ble_eq_true rfl, Nat.le_of_ble_eq_true rfl⟩ dX9_addClerk_4 (fun E ce q9 H1 locs1 hE hP1 hD1 hS1 hce hcv hcl => vx_out (fun x hx => (htab x hx).elim) hlocks hce hcv hcl (fun t ht hv => hthr H1 locs1 E t (by first | exact hE | (simp only [orE, true_and, hE]; done) | (simp [orE, true_and, hE]; done)) hP1 hD1 hS1 hv (by rw [ht]; exact Nat.le_refl _) (fun q _ => by rw [ht])) (fun z hz => hfr _ (hS1.2.2 z hz)) (by decide) (by decide)) (fun H locs x4 hP hD hS => ?_)
  have hP : va_P D vwCl (WIN T v B O g ln un nx pl f0 f1 f2) H := hP
  have hD : va_D A (WIN T v B O g ln un nx pl f0 f1 f2) := hD
  refine lv_iload_n hx hb dX9_addClerk_7 rfl (lv_at hl 2 rfl) ?_
  refine lv_iconst (v := 0) hx hb dX9_addClerk_8 (by decide) ?_
  refine lv_bipush (v := 99) hx hb dX9_addClerk_9 (by decide) ?_
  refine wxSv (As := [.int (z1), .int (0), .int (99)]) (rest := []) ⟨hx, hb, hml, hown, hts⟩ (c_X9_checkRange l hl9 D T aK aV z1 0 99 _) (va_cwS 3 hts gX9_addClerk_X9_checkRange rfl rfl rfl (by decide +kernel) ⟨Nat.le_of_ble_eq_true rfl, Nat.le_of_ble_eq_true rfl⟩) (Foc.nil _) (Foc.nil _) hC hK hP hD hS hA rfl hl.1 rfl (Nat.le_of_ble_eq_true rfl) ⟨Nat.le_of_ble_eq_true rfl, Nat.le_of_ble_eq_true rfl⟩ dX9_addClerk_11 (fun E ce q9 H1 locs1 hE hP1 hD1 hS1 hce hcv hcl => vx_out (fun x hx => (htab x hx).elim) hlocks hce hcv hcl (fun t ht hv => hthr H1 locs1 E t (by first | exact hE | (simp only [orE, x4, hE]; done) | (simp [orE, x4, hE]; done)) hP1 hD1 hS1 hv (by rw [ht]; exact Nat.le_refl _) (fun q _ => by rw [ht])) (fun z hz => hfr _ (hS1.2.2 z hz)) (by decide) (by decide)) (fun H locs x11 hP hD hS => ?_)
  have hP : va_P D vwCl (WIN T v B O g ln un nx pl f0 f1 f2) H := hP
  have hD : va_D A (WIN T v B O g ln un nx pl f0 f1 f2) := hD
  refine lv_aload_n hx hb dX9_addClerk_14 rfl (lv_at hl 0 rfl) ?_
  refine va_get (D := D) (ci := 9) (v := .ref ((B 0) 0)) (C := RX9) (T := TX9) (N := 6) hx hb hts i9 hown hK hP 0 rfl rfl 1 (by decide) w3 (fun _ h9 => h9) rfl dX9_addClerk_15 ?_
  refine va_get (D := D) (ci := 3) (v := .ref ((B 0) 3)) (C := RX3) (T := TX3) (N := 4) hx hb hts i3 hown hK hP (14 * 0 + 0 + 11) (WIN_get (by decide) (by decide) rfl) rfl 2 (by decide) w4 (fun _ h9 => h9) rfl dX9_addClerk_18 ?_
  refine va_get (D := D) (ci := 8) (v := .int ((O 0) 0 5)) (C := RX8) (T := TX8) (N := 4) hx hb hts i8 hown hK hP (14 * 0 + 3 + 11) (WIN_get (by decide) (by decide) rfl) rfl 0 (by decide) w5 (fun _ h9 => h9) rfl dX9_addClerk_21 ?_
  refine endI (r := nI K) (hKn) ?_
  refine lv_iconst (v := 5) hx hb dX9_addClerk_24 (by decide) ?_
  refine lv_icmp_lt (tgt := 39) hx hb dX9_addClerk_25 (by decide) (fun c25 => ?_) (fun c25 => ?_)
  ·
    have c25 : K < 5 := (nI_ltI (a := K) (b := 5) (by omega) (by omega)).mp c25
    refine lv_aload_n hx hb dX9_addClerk_39 rfl (lv_at hl 0 rfl) ?_
    refine va_get (D := D) (ci := 9) (v := .ref (v 4)) (C := RX9) (T := TX9) (N := 6) hx hb hts i9 hown hK hP 0 rfl rfl 3 (by decide) w6 (fun _ h9 => h9) rfl dX9_addClerk_40 ?_
    refine lv_aload_n hx hb dX9_addClerk_43 rfl (lv_at hl 0 rfl) ?_
    refine va_get (D := D) (ci := 9) (v := .ref ((B 0) 0)) (C := RX9) (T := TX9) (N := 6) hx hb hts i9 hown hK hP 0 rfl rfl 1 (by decide) w3 (fun _ h9 => h9) rfl dX9_addClerk_44 ?_
    refine wrVv (As := [.ref ((B 0) 0)]) (rest := []) ⟨hx, hb, hml, hown, hts⟩ (c_X0_push l D T v B O g ln un nx pl f0 f1 f2 hu hnx _) (cwV 1 hts gX9_addClerk_X0_push rfl rfl rfl (by decide +kernel) ⟨Nat.le_of_ble_eq_true rfl, Nat.le_of_ble_eq_true rfl⟩) (Foc.rfl _ _) hK hP hD hS hA 4 rfl rfl rfl hl.1 rfl (Nat.le_of_ble_eq_true rfl) ⟨Nat.le_of_ble_eq_true rfl, Nat.le_of_ble_eq_true rfl⟩ dX9_addClerk_47 (fun H locs hP hD hS => ?_)
    have hP : va_P D vwCl (WIN T v B (va_up O (3 + nx) (O 0)) g ln (if un = 8 then 8 else un + 1) ((nx + 1) % 8) pl f0 f1 f2) H := hP
    have hD : va_D A (WIN T v B (va_up O (3 + nx) (O 0)) g ln (if un = 8 then 8 else un + 1) ((nx + 1) % 8) pl f0 f1 f2) := hD
    generalize hO1 : va_up O (3 + nx) (O 0) = O1 at hP hD
    have hZ : O1 0 = O 0 := by rw [← hO1]; exact pushO_0 O nx (O 0)
    obtain ⟨hN1, -, hKn1, -, hCn1, -, -, hn1, -, hSK1⟩ := hOI.pushed hZ
    have hP : va_P D vwCl (WIN T v B O1 g ln (if un = 8 then 8 else un + 1) ((nx + 1) % 8) pl f0 f1 f2) H := hP
    have hD : va_D A (WIN T v B O1 g ln (if un = 8 then 8 else un + 1) ((nx + 1) % 8) pl f0 f1 f2) := hD
    refine lv_aload_n hx hb dX9_addClerk_50 rfl (lv_at hl 0 rfl) ?_
    refine va_get (D := D) (ci := 9) (v := .ref ((B 0) 0)) (C := RX9) (T := TX9) (N := 6) hx hb hts i9 hown hK hP 0 rfl rfl 1 (by decide) w3 (fun _ h9 => h9) rfl dX9_addClerk_51 ?_
    refine va_get (D := D) (ci := 3) (v := .ref ((B 0) 3)) (C := RX3) (T := TX3) (N := 4) hx hb hts i3 hown hK hP (14 * 0 + 0 + 11) (WIN_get (by decide) (by decide) rfl) rfl 2 (by decide) w4 (fun _ h9 => h9) rfl dX9_addClerk_54 ?_
    refine lv_iload_n hx hb dX9_addClerk_57 rfl (lv_at hl 1 rfl) ?_
    refine lv_iload_n hx hb dX9_addClerk_58 rfl (lv_at hl 2 rfl) ?_
    refine wrVv (As := [.int (z), .int (z1)]) (rest := []) ⟨hx, hb, hml, hown, hts⟩ (c_X8_add l D T (B 0) (O1 0) z z1 K hKn1 (by omega) _) (cwV 2 hts gX9_addClerk_X8_add rfl rfl rfl (by decide +kernel) ⟨Nat.le_of_ble_eq_true rfl, Nat.le_of_ble_eq_true rfl⟩) (WIN_off (j := 0) (by decide) (staffAdd (O1 0) K z z1)) hK hP hD hS hA 3 rfl rfl rfl hl.1 rfl (Nat.le_of_ble_eq_true rfl) ⟨Nat.le_of_ble_eq_true rfl, Nat.le_of_ble_eq_true rfl⟩ dX9_addClerk_59 (fun H locs hP hD hS => ?_)
    have hP : va_P D vwCl (WIN T v B (va_up O1 0 (staffAdd (O1 0) K z z1)) g ln (if un = 8 then 8 else un + 1) ((nx + 1) % 8) pl f0 f1 f2) H := hP
    have hD : va_D A (WIN T v B (va_up O1 0 (staffAdd (O1 0) K z z1)) g ln (if un = 8 then 8 else un + 1) ((nx + 1) % 8) pl f0 f1 f2) := hD
    refine lv_aload_n hx hb dX9_addClerk_62 rfl (lv_at hl 0 rfl) ?_
    refine va_get (D := D) (ci := 9) (v := .ref ((B 0) 0)) (C := RX9) (T := TX9) (N := 6) hx hb hts i9 hown hK hP 0 rfl rfl 1 (by decide) w3 (fun _ h9 => h9) rfl dX9_addClerk_63 ?_
    refine va_get (D := D) (ci := 3) (v := .ref ((B 0) 3)) (C := RX3) (T := TX3) (N := 4) hx hb hts i3 hown hK hP (14 * 0 + 0 + 11) (WIN_get (by decide) (by decide) rfl) rfl 2 (by decide) w4 (fun _ h9 => h9) rfl dX9_addClerk_66 ?_
    refine va_get (D := D) (ci := 8) (v := .int ((staffAdd (O1 0) K z z1) 0 5)) (C := RX8) (T := TX8) (N := 4) hx hb hts i8 hown hK hP (14 * 0 + 3 + 11) (WIN_get (by decide) (by decide) rfl) rfl 0 (by decide) w5 (fun _ h9 => h9) rfl dX9_addClerk_69 ?_
    refine lv_iconst (v := 1) hx hb dX9_addClerk_72 (by decide) ?_
    refine lv_isub hx hb dX9_addClerk_73 ?_
    refine endI (r := nI (K)) (pk_sub (a := K + 1) (b := 1) (by omega)) ?_
    refine endI (r := nI K) (by rfl) ?_
    have hE : (WIN T v B (va_up O1 0 (staffAdd (O1 0) K z z1)) g ln (if un = 8 then 8 else un + 1) ((nx + 1) % 8) pl f0 f1 f2 : va_W) = (WIN T v B (va_up (va_up O (3 + nx) (O 0)) 0 (staffAdd (O 0) K z z1)) g ln (if un = 8 then 8 else un + 1) ((nx + 1) % 8) pl f0 f1 f2) := by rw [hZ, ← hO1]
    exact hret _ _ _ _ _ _ dX9_addClerk_74 (by first | (rw [x4, x11, chkB_n (decide_eq_true c25)]; rfl) | (rw [x4, x11, chkB_f (decide_eq_false c25)]; rfl)) (by rw [← hE]; exact hP) (by rw [← hE]; exact hD) hS (by decide) (by decide)
  ·
    have c25 : ¬ K < 5 := fun h9 => c25 ((nI_ltI (a := K) (b := 5) (by omega) (by omega)).mpr h9)
    exact vx_throwSW (cls := "java/lang/IllegalStateException") (names := supL) (text := "there are as many clerks as there may be") (sa := aK 21) hx hb hl9 hown (by decide +kernel) (by decide +kernel) w1 w2 (show vk_R RX9 283 "there are as many clerks as there may be" (aK 21) s from hC.2.1 21 (by decide)) (vx_hat (B := badW "java/lang/IllegalStateException") (fun w hw => hts w (List.mem_cons_of_mem _ (List.mem_append_left _ (List.mem_append_right _ hw)))) tb_86 (hC.2.2.2.2.use (by decide +kernel))) tg_86 hC.2.2.1 hC.2.2.2.1 hS (hl.1.trans hml.symm) dX9_addClerk_28 dX9_addClerk_31 dX9_addClerk_32 dX9_addClerk_35 dX9_addClerk_38 (fun x hx => (htab x hx).elim) (by decide) (Nat.le_of_ble_eq_true rfl) (Nat.le_of_ble_eq_true rfl) (Nat.le_of_ble_eq_true rfl) hlocks (fun t hv hz hk => hthr _ _ _ t (by first | (rw [x4, x11, chkB_n (decide_eq_true c25)]; rfl) | (rw [x4, x11, chkB_f (decide_eq_false c25)]; rfl)) hP hD hS hv hz hk) (fun z hz => hfr _ (hS.2.2 z hz)) (by decide) (by decide)

set_option maxHeartbeats 4000000 in
set_option maxRecDepth 100000 in
theorem c_X9_refill (l : Launch) (hl9 : l.stackTraces = false) (D : va_G) (T : Nat → ClassId) (aK aV : Nat → Nat) (v : Nat → Nat) (B : Nat → Nat → Nat) (O : Nat → Nat → Nat → Int32) (g : CSt) (ln un nx pl : Nat) (f0 f1 f2 : Nat → Int32) (z : Int32) (z1 : Int32) (N : Nat) (K : Nat) (C : Nat) (nt : Nat) (hOI : OI (O 0) N K C nt) (hu : un ≤ 8) (hnx : nx < 8) (sz : Nat) : vx_Met l yX9_refill wsX9_refill ({ frames := 7, cells := 2, slots := 12, locals := 112 } : Room) (va_Pc [.ref (v 0), .int (z), .int (z1)] (PSc D T aK aV (WIN T v B O g ln un nx pl f0 f1 f2) sz)) (va_Qi (fun r9 (_ : Unit) => (orE (chkB (inN z K) "java/lang/IndexOutOfBoundsException") (chkB (rg z1 1 99) "java/lang/IllegalArgumentException")) = none ∧ r9 = (if (O 0) 3 z.toNatClampNeg + z1 < 99 then (O 0) 3 z.toNatClampNeg + z1 else 99)) (fun _ t => QS D T (va_A (WIN T v B O g ln un nx pl f0 f1 f2) sz) (WIN T v B (va_up (va_up O (3 + nx) (O 0)) 0 (va_up (O 0) 3 (va_up ((O 0) 3) z.toNatClampNeg (if (O 0) 3 z.toNatClampNeg + z1 < 99 then (O 0) 3 z.toNatClampNeg + z1 else 99)))) g ln (if un = 8 then 8 else un + 1) ((nx + 1) % 8) pl f0 f1 f2) t) (va_A (WIN T v B O g ln un nx pl f0 f1 f2) sz)) (vx_X (fun (_ : Unit) => True) (fun E _ t => (orE (chkB (inN z K) "java/lang/IndexOutOfBoundsException") (chkB (rg z1 1 99) "java/lang/IllegalArgumentException")) = some E ∧ QS D T (va_A (WIN T v B O g ln un nx pl f0 f1 f2) sz) (WIN T v B O g ln un nx pl f0 f1 f2) t) (va_A (WIN T v B O g ln un nx pl f0 f1 f2) sz)) 2 12 (va_A (WIN T v B O g ln un nx pl f0 f1 f2) sz) := by
  refine metXi (cc := cX9_refill) (maxL := 3) (ty := .int) (by decide) rfl (by rfl) (Nat.le_of_ble_eq_true rfl) ?_
  intro p e s m args below meth c Qc XC free ls A hx hb hml hown hts hC hP hK hD hA hS hl htab hlocks hfr hret hthr
  have hown : s.vm.findClass RX9 = some m.cls := hown
  have hl : lv_has ls 3 [(0, .ref (v 0)), (1, .int (z)), (2, .int (z1))] := hl
  have i3 : ∀ w ∈ wsX30, w ∈ wsX9_refill := by decide +kernel
  have i8 : ∀ w ∈ wsX80, w ∈ wsX9_refill := by decide +kernel
  have i9 : ∀ w ∈ wsX90, w ∈ wsX9_refill := by decide +kernel
  have w1 := hts (Cond.fieldLink RX9 29 "MoonComplaintWindow" "history" "LMoonComplaintWindow$History;") (List.mem_of_getElem? (i := 1) rfl)
  have w2 := hts (Cond.fieldLink RX9 19 "MoonComplaintWindow" "office" "LMoonComplaintWindow$Office;") (List.mem_of_getElem? (i := 2) rfl)
  have w3 := hts (Cond.fieldLink RX9 224 "MoonComplaintWindow$Office" "staff" "LMoonComplaintWindow$Staff;") (List.mem_of_getElem? (i := 3) rfl)
  have w4 := hts (Cond.fieldLink RX9 242 "MoonComplaintWindow$Staff" "oils" "[I") (List.mem_of_getElem? (i := 4) rfl)
  have w5 := hts (Cond.methodLink RX9 288 Lib.Math.min.name) (List.mem_of_getElem? (i := 5) rfl)
  have w6 := hts (Cond.static Lib.Math.min.name) (List.mem_of_getElem? (i := 6) rfl)
  have w7 := hts (Cond.initialized "java/lang/Math") (List.mem_of_getElem? (i := 7) rfl)
  have w8 := hts (Cond.code Lib.Math.min.name Lib.Math.min.code 2 (some .int)) (List.mem_of_getElem? (i := 8) rfl)
  obtain ⟨hN, hN2, hKn, hK2, hCn, hC1, hC2, hn, hnt, hSK⟩ := id hOI
  refine lv_aload_n hx hb dX9_refill_0 rfl (lv_at hl 0 rfl) ?_
  refine lv_iload_n hx hb dX9_refill_1 rfl (lv_at hl 1 rfl) ?_
  refine wxVv (As := [.int (z)]) (rest := []) ⟨hx, hb, hml, hown, hts⟩ (c_X9_checkClerk l hl9 D T aK aV v B O g ln un nx pl f0 f1 f2 z N K C nt hOI _) (cwV 1 hts gX9_refill_X9_checkClerk rfl rfl rfl (by decide +kernel) ⟨Nat.le_of_ble_eq_true rfl, Nat.le_of_ble_eq_true rfl⟩) (Foc.rfl _ _) (Foc.rfl _ _) hC hK hP hD hS hA 0 rfl rfl rfl hl.1 rfl (Nat.le_of_ble_eq_true rfl) ⟨Nat.le_of_ble_eq_true rfl, Nat.le_of_ble_eq_true rfl⟩ dX9_refill_2 (fun E ce q9 H1 locs1 hE hP1 hD1 hS1 hce hcv hcl => vx_out (fun x hx => (htab x hx).elim) hlocks hce hcv hcl (fun t ht hv => hthr H1 locs1 E t (by first | exact hE | (simp only [orE, true_and, hE]; done) | (simp [orE, true_and, hE]; done)) hP1 hD1 hS1 hv (by rw [ht]; exact Nat.le_refl _) (fun q _ => by rw [ht])) (fun z hz => hfr _ (hS1.2.2 z hz)) (by decide) (by decide)) (fun H locs x2 hP hD hS => ?_)
  have hP : va_P D vwCl (WIN T v B O g ln un nx pl f0 f1 f2) H := hP
  have hD : va_D A (WIN T v B O g ln un nx pl f0 f1 f2) := hD
  have h2r := chkB_t x2
  obtain ⟨j, hj, hjz, hjc⟩ := inN_t (by omega) h2r
  rw [hjz] at hl
  have hl : lv_has ls 3 [(0, .ref (v 0)), (1, .int (nI j)), (2, .int (z1))] := hl
  refine lv_iload_n hx hb dX9_refill_5 rfl (lv_at hl 2 rfl) ?_
  refine lv_iconst (v := 1) hx hb dX9_refill_6 (by decide) ?_
  refine lv_bipush (v := 99) hx hb dX9_refill_7 (by decide) ?_
  refine wxSv (As := [.int (z1), .int (1), .int (99)]) (rest := []) ⟨hx, hb, hml, hown, hts⟩ (c_X9_checkRange l hl9 D T aK aV z1 1 99 _) (va_cwS 3 hts gX9_refill_X9_checkRange rfl rfl rfl (by decide +kernel) ⟨Nat.le_of_ble_eq_true rfl, Nat.le_of_ble_eq_true rfl⟩) (Foc.nil _) (Foc.nil _) hC hK hP hD hS hA rfl hl.1 rfl (Nat.le_of_ble_eq_true rfl) ⟨Nat.le_of_ble_eq_true rfl, Nat.le_of_ble_eq_true rfl⟩ dX9_refill_9 (fun E ce q9 H1 locs1 hE hP1 hD1 hS1 hce hcv hcl => vx_out (fun x hx => (htab x hx).elim) hlocks hce hcv hcl (fun t ht hv => hthr H1 locs1 E t (by first | exact hE | (simp only [orE, x2, hE]; done) | (simp [orE, x2, hE]; done)) hP1 hD1 hS1 hv (by rw [ht]; exact Nat.le_refl _) (fun q _ => by rw [ht])) (fun z hz => hfr _ (hS1.2.2 z hz)) (by decide) (by decide)) (fun H locs x9 hP hD hS => ?_)
  have hP : va_P D vwCl (WIN T v B O g ln un nx pl f0 f1 f2) H := hP
  have hD : va_D A (WIN T v B O g ln un nx pl f0 f1 f2) := hD
  refine lv_aload_n hx hb dX9_refill_12 rfl (lv_at hl 0 rfl) ?_
  refine va_get (D := D) (ci := 9) (v := .ref (v 4)) (C := RX9) (T := TX9) (N := 6) hx hb hts i9 hown hK hP 0 rfl rfl 3 (by decide) w1 (fun _ h9 => h9) rfl dX9_refill_13 ?_
  refine lv_aload_n hx hb dX9_refill_16 rfl (lv_at hl 0 rfl) ?_
  refine va_get (D := D) (ci := 9) (v := .ref ((B 0) 0)) (C := RX9) (T := TX9) (N := 6) hx hb hts i9 hown hK hP 0 rfl rfl 1 (by decide) w2 (fun _ h9 => h9) rfl dX9_refill_17 ?_
  refine wrVv (As := [.ref ((B 0) 0)]) (rest := []) ⟨hx, hb, hml, hown, hts⟩ (c_X0_push l D T v B O g ln un nx pl f0 f1 f2 hu hnx _) (cwV 1 hts gX9_refill_X0_push rfl rfl rfl (by decide +kernel) ⟨Nat.le_of_ble_eq_true rfl, Nat.le_of_ble_eq_true rfl⟩) (Foc.rfl _ _) hK hP hD hS hA 4 rfl rfl rfl hl.1 rfl (Nat.le_of_ble_eq_true rfl) ⟨Nat.le_of_ble_eq_true rfl, Nat.le_of_ble_eq_true rfl⟩ dX9_refill_20 (fun H locs hP hD hS => ?_)
  have hP : va_P D vwCl (WIN T v B (va_up O (3 + nx) (O 0)) g ln (if un = 8 then 8 else un + 1) ((nx + 1) % 8) pl f0 f1 f2) H := hP
  have hD : va_D A (WIN T v B (va_up O (3 + nx) (O 0)) g ln (if un = 8 then 8 else un + 1) ((nx + 1) % 8) pl f0 f1 f2) := hD
  generalize hO1 : va_up O (3 + nx) (O 0) = O1 at hP hD
  have hZ : O1 0 = O 0 := by rw [← hO1]; exact pushO_0 O nx (O 0)
  obtain ⟨hN1, -, hKn1, -, hCn1, -, -, hn1, -, hSK1⟩ := hOI.pushed hZ
  have hP : va_P D vwCl (WIN T v B O1 g ln (if un = 8 then 8 else un + 1) ((nx + 1) % 8) pl f0 f1 f2) H := hP
  have hD : va_D A (WIN T v B O1 g ln (if un = 8 then 8 else un + 1) ((nx + 1) % 8) pl f0 f1 f2) := hD
  refine lv_aload_n hx hb dX9_refill_23 rfl (lv_at hl 0 rfl) ?_
  refine va_get (D := D) (ci := 9) (v := .ref ((B 0) 0)) (C := RX9) (T := TX9) (N := 6) hx hb hts i9 hown hK hP 0 rfl rfl 1 (by decide) w2 (fun _ h9 => h9) rfl dX9_refill_24 ?_
  refine va_get (D := D) (ci := 3) (v := .ref ((B 0) 3)) (C := RX3) (T := TX3) (N := 4) hx hb hts i3 hown hK hP (14 * 0 + 0 + 11) (WIN_get (by decide) (by decide) rfl) rfl 2 (by decide) w3 (fun _ h9 => h9) rfl dX9_refill_27 ?_
  refine va_get (D := D) (ci := 8) (v := .ref ((B 0) 5)) (C := RX8) (T := TX8) (N := 4) hx hb hts i8 hown hK hP (14 * 0 + 3 + 11) (WIN_get (by decide) (by decide) rfl) rfl 3 (by decide) w4 (fun _ h9 => h9) rfl dX9_refill_30 ?_
  refine lv_iload_n hx hb dX9_refill_33 rfl (lv_at hl 1 rfl) ?_
  refine lv_bipush (v := 99) hx hb dX9_refill_34 (by decide) ?_
  refine lv_aload_n hx hb dX9_refill_36 rfl (lv_at hl 0 rfl) ?_
  refine va_get (D := D) (ci := 9) (v := .ref ((B 0) 0)) (C := RX9) (T := TX9) (N := 6) hx hb hts i9 hown hK hP 0 rfl rfl 1 (by decide) w2 (fun _ h9 => h9) rfl dX9_refill_37 ?_
  refine va_get (D := D) (ci := 3) (v := .ref ((B 0) 3)) (C := RX3) (T := TX3) (N := 4) hx hb hts i3 hown hK hP (14 * 0 + 0 + 11) (WIN_get (by decide) (by decide) rfl) rfl 2 (by decide) w3 (fun _ h9 => h9) rfl dX9_refill_40 ?_
  refine va_get (D := D) (ci := 8) (v := .ref ((B 0) 5)) (C := RX8) (T := TX8) (N := 4) hx hb hts i8 hown hK hP (14 * 0 + 3 + 11) (WIN_get (by decide) (by decide) rfl) rfl 3 (by decide) w4 (fun _ h9 => h9) rfl dX9_refill_43 ?_
  refine lv_iload_n hx hb dX9_refill_46 rfl (lv_at hl 1 rfl) ?_
  refine aldI hx hb hK hP (14 * 0 + 5 + 11) 0 (WIN_get (by decide) (by decide) rfl) rfl (j) rfl (by omega) (by decide) dX9_refill_47 ?_
  refine endI (r := ((O1 0) 3) j) rfl ?_
  refine lv_iload_n hx hb dX9_refill_48 rfl (lv_at hl 2 rfl) ?_
  refine lv_iadd hx hb dX9_refill_49 ?_
  refine va_mmin hx hb (hml.trans hl.1.symm) hown w5 w6 w7 w8 (by decide) (Nat.le_of_ble_eq_true rfl) (Nat.le_of_ble_eq_true rfl) (Nat.le_of_ble_eq_true rfl) dX9_refill_50 ?_
  refine astI hx hb hK hP hD hS (14 * 0 + 5 + 11) 0 (WIN_get (by decide) (by decide) rfl) rfl (j) rfl (by omega) (by decide) dX9_refill_53 (fun H locs hP hD hS => ?_)
  have hP := WIN_setP (j := 0) (k := 5) (o1 := (va_up (O1 0) 3 (va_up ((O1 0) 3) j (if ((((O1 0) 3) j) + z1) < 99 then ((((O1 0) 3) j) + z1) else 99)))) (by decide) (by decide) hP rfl
  have hD := WIN_setD (j := 0) (k := 5) (o1 := (va_up (O1 0) 3 (va_up ((O1 0) 3) j (if ((((O1 0) 3) j) + z1) < 99 then ((((O1 0) 3) j) + z1) else 99)))) (by decide) (by decide) hD rfl
  have hP : va_P D vwCl (WIN T v B (va_up O1 0 ((va_up (O1 0) 3 (va_up ((O1 0) 3) j (if ((((O1 0) 3) j) + z1) < 99 then ((((O1 0) 3) j) + z1) else 99))))) g ln (if un = 8 then 8 else un + 1) ((nx + 1) % 8) pl f0 f1 f2) H := hP
  have hD : va_D A (WIN T v B (va_up O1 0 ((va_up (O1 0) 3 (va_up ((O1 0) 3) j (if ((((O1 0) 3) j) + z1) < 99 then ((((O1 0) 3) j) + z1) else 99))))) g ln (if un = 8 then 8 else un + 1) ((nx + 1) % 8) pl f0 f1 f2) := hD
  refine lv_aload_n hx hb dX9_refill_54 rfl (lv_at hl 0 rfl) ?_
  refine va_get (D := D) (ci := 9) (v := .ref ((B 0) 0)) (C := RX9) (T := TX9) (N := 6) hx hb hts i9 hown hK hP 0 rfl rfl 1 (by decide) w2 (fun _ h9 => h9) rfl dX9_refill_55 ?_
  refine va_get (D := D) (ci := 3) (v := .ref ((B 0) 3)) (C := RX3) (T := TX3) (N := 4) hx hb hts i3 hown hK hP (14 * 0 + 0 + 11) (WIN_get (by decide) (by decide) rfl) rfl 2 (by decide) w3 (fun _ h9 => h9) rfl dX9_refill_58 ?_
  refine va_get (D := D) (ci := 8) (v := .ref ((B 0) 5)) (C := RX8) (T := TX8) (N := 4) hx hb hts i8 hown hK hP (14 * 0 + 3 + 11) (WIN_get (by decide) (by decide) rfl) rfl 3 (by decide) w4 (fun _ h9 => h9) rfl dX9_refill_61 ?_
  refine lv_iload_n hx hb dX9_refill_64 rfl (lv_at hl 1 rfl) ?_
  refine aldI hx hb hK hP (14 * 0 + 5 + 11) 0 (WIN_get (by decide) (by decide) rfl) rfl (j) rfl (by omega) (by decide) dX9_refill_65 ?_
  refine endI (r := (((va_up (O1 0) 3 (va_up ((O1 0) 3) j (if ((((O1 0) 3) j) + z1) < 99 then ((((O1 0) 3) j) + z1) else 99)))) 3) j) rfl ?_
  refine endI (r := if (O 0) 3 z.toNatClampNeg + z1 < 99 then (O 0) 3 z.toNatClampNeg + z1 else 99) (by rw [hjc, ← hZ]; exact if_pos rfl) ?_
  have hE : (WIN T v B (va_up O1 0 ((va_up (O1 0) 3 (va_up ((O1 0) 3) j (if ((((O1 0) 3) j) + z1) < 99 then ((((O1 0) 3) j) + z1) else 99))))) g ln (if un = 8 then 8 else un + 1) ((nx + 1) % 8) pl f0 f1 f2 : va_W) = (WIN T v B (va_up (va_up O (3 + nx) (O 0)) 0 (va_up (O 0) 3 (va_up ((O 0) 3) z.toNatClampNeg (if (O 0) 3 z.toNatClampNeg + z1 < 99 then (O 0) 3 z.toNatClampNeg + z1 else 99)))) g ln (if un = 8 then 8 else un + 1) ((nx + 1) % 8) pl f0 f1 f2) := by rw [hjc, hZ, ← hO1]
  exact hret _ _ _ _ _ _ dX9_refill_66 (by first | rfl | (simp only [orE, x2, x9]; done) | (simp only [orE, x2, x9] <;> simp [chkB, x2, x9]; done) | (simp [orE, chkB, x2, x9]; done) | ((first | have x2x := Int32.not_lt.mp x2 | have x2x := Int32.not_le.mp x2 | have x2x := Int32.not_lt.mpr x2 | have x2x := Int32.not_le.mpr x2 | have x2x := x2); (first | have x9x := Int32.not_lt.mp x9 | have x9x := Int32.not_le.mp x9 | have x9x := Int32.not_lt.mpr x9 | have x9x := Int32.not_le.mpr x9 | have x9x := x9); simp [orE, chkB, x2, x9, x2x, x9x]; done)) (by rw [← hE]; exact hP) (by rw [← hE]; exact hD) hS (by decide) (by decide)

set_option maxHeartbeats 4000000 in
set_option maxRecDepth 100000 in
theorem c_X9_setCloud (l : Launch) (hl9 : l.stackTraces = false) (D : va_G) (T : Nat → ClassId) (aK aV : Nat → Nat) (v : Nat → Nat) (B : Nat → Nat → Nat) (O : Nat → Nat → Nat → Int32) (g : CSt) (ln un nx pl : Nat) (f0 f1 f2 : Nat → Int32) (z : Int32) (z1 : Int32) (N : Nat) (K : Nat) (C : Nat) (nt : Nat) (hOI : OI (O 0) N K C nt) (hu : un ≤ 8) (hnx : nx < 8) (sz : Nat) : vx_Met l yX9_setCloud wsX9_setCloud ({ frames := 7, cells := 1, slots := 6, locals := 112 } : Room) (va_Pc [.ref (v 0), .int (z), .int (z1)] (PSc D T aK aV (WIN T v B O g ln un nx pl f0 f1 f2) sz)) (va_Qi (fun r9 (_ : Unit) => (orE (chkB (inN z C) "java/lang/IndexOutOfBoundsException") (chkB (rg z1 0 9) "java/lang/IllegalArgumentException")) = none ∧ r9 = ((O 0) 1 z.toNatClampNeg)) (fun _ t => QS D T (va_A (WIN T v B O g ln un nx pl f0 f1 f2) sz) (WIN T v B (va_up (va_up O (3 + nx) (O 0)) 0 (va_up (O 0) 1 (va_up ((O 0) 1) z.toNatClampNeg z1))) g ln (if un = 8 then 8 else un + 1) ((nx + 1) % 8) pl f0 f1 f2) t) (va_A (WIN T v B O g ln un nx pl f0 f1 f2) sz)) (vx_X (fun (_ : Unit) => True) (fun E _ t => (orE (chkB (inN z C) "java/lang/IndexOutOfBoundsException") (chkB (rg z1 0 9) "java/lang/IllegalArgumentException")) = some E ∧ QS D T (va_A (WIN T v B O g ln un nx pl f0 f1 f2) sz) (WIN T v B O g ln un nx pl f0 f1 f2) t) (va_A (WIN T v B O g ln un nx pl f0 f1 f2) sz)) 1 6 (va_A (WIN T v B O g ln un nx pl f0 f1 f2) sz) := by
  refine metXi (cc := cX9_setCloud) (maxL := 4) (ty := .int) (by decide) rfl (by rfl) (Nat.le_of_ble_eq_true rfl) ?_
  intro p e s m args below meth c Qc XC free ls A hx hb hml hown hts hC hP hK hD hA hS hl htab hlocks hfr hret hthr
  have hown : s.vm.findClass RX9 = some m.cls := hown
  have hl : lv_has ls 4 [(0, .ref (v 0)), (1, .int (z)), (2, .int (z1))] := hl
  have i3 : ∀ w ∈ wsX30, w ∈ wsX9_setCloud := by decide +kernel
  have i6 : ∀ w ∈ wsX60, w ∈ wsX9_setCloud := by decide +kernel
  have i9 : ∀ w ∈ wsX90, w ∈ wsX9_setCloud := by decide +kernel
  have w1 := hts (Cond.classLink RX9 297 "java/lang/IndexOutOfBoundsException") (List.mem_of_getElem? (i := 1) rfl)
  have w2 := hts (Cond.initialized "java/lang/IndexOutOfBoundsException") (List.mem_of_getElem? (i := 2) rfl)
  have w3 := hts (Cond.fieldLink RX9 19 "MoonComplaintWindow" "office" "LMoonComplaintWindow$Office;") (List.mem_of_getElem? (i := 3) rfl)
  have w4 := hts (Cond.fieldLink RX9 139 "MoonComplaintWindow$Office" "sky" "LMoonComplaintWindow$Sky;") (List.mem_of_getElem? (i := 4) rfl)
  have w5 := hts (Cond.fieldLink RX9 29 "MoonComplaintWindow" "history" "LMoonComplaintWindow$History;") (List.mem_of_getElem? (i := 5) rfl)
  have w6 := hts (Cond.fieldLink RX9 302 "MoonComplaintWindow$Sky" "clouds" "[I") (List.mem_of_getElem? (i := 6) rfl)
  obtain ⟨hN, hN2, hKn, hK2, hCn, hC1, hC2, hn, hnt, hSK⟩ := id hOI
  refine lv_aload_n hx hb dX9_setCloud_0 rfl (lv_at hl 0 rfl) ?_
  refine va_get (D := D) (ci := 9) (v := .ref ((B 0) 0)) (C := RX9) (T := TX9) (N := 6) hx hb hts i9 hown hK hP 0 rfl rfl 1 (by decide) w3 (fun _ h9 => h9) rfl dX9_setCloud_1 ?_
  refine va_get (D := D) (ci := 3) (v := .ref ((B 0) 1)) (C := RX3) (T := TX3) (N := 4) hx hb hts i3 hown hK hP (14 * 0 + 0 + 11) (WIN_get (by decide) (by decide) rfl) rfl 1 (by decide) w4 (fun _ h9 => h9) rfl dX9_setCloud_4 ?_
  refine lv_iload_n hx hb dX9_setCloud_7 rfl (lv_at hl 1 rfl) ?_
  refine rdV (As := [.int (z)]) (rest := []) ⟨hx, hb, hml, hown, hts⟩ (c_X6_hasCloud l D T (B 0) (O 0) z ) (cwV 1 hts gX9_setCloud_X6_hasCloud rfl rfl rfl (by decide +kernel) ⟨Nat.le_of_ble_eq_true rfl, Nat.le_of_ble_eq_true rfl⟩) hK ((WIN_off (j := 0) (by decide) (O 0)).subP hP) 1 rfl rfl rfl hl.1 rfl (Nat.le_of_ble_eq_true rfl) ⟨Nat.zero_le _, Nat.zero_le _⟩ dX9_setCloud_8 ?_
  refine lv_if_ne (tgt := 25) hx hb dX9_setCloud_11 (by decide) (fun c11 => ?_) (fun c11 => ?_)
  ·
    have c11 := bI_n0.mp c11
    have hq9 : inN z C = true := by have h9 := c11; rw [hCn] at h9; exact h9
    obtain ⟨j, hj, hjz, hjc⟩ := inN_t (by omega) hq9
    rw [hjz] at hl
    have hl : lv_has ls 4 [(0, .ref (v 0)), (1, .int (nI j)), (2, .int (z1))] := hl
    refine lv_iload_n hx hb dX9_setCloud_25 rfl (lv_at hl 2 rfl) ?_
    refine lv_iconst (v := 0) hx hb dX9_setCloud_26 (by decide) ?_
    refine lv_bipush (v := 9) hx hb dX9_setCloud_27 (by decide) ?_
    refine wxSv (As := [.int (z1), .int (0), .int (9)]) (rest := []) ⟨hx, hb, hml, hown, hts⟩ (c_X9_checkRange l hl9 D T aK aV z1 0 9 _) (va_cwS 3 hts gX9_setCloud_X9_checkRange rfl rfl rfl (by decide +kernel) ⟨Nat.le_of_ble_eq_true rfl, Nat.le_of_ble_eq_true rfl⟩) (Foc.nil _) (Foc.nil _) hC hK hP hD hS hA rfl hl.1 rfl (Nat.le_of_ble_eq_true rfl) ⟨Nat.le_of_ble_eq_true rfl, Nat.le_of_ble_eq_true rfl⟩ dX9_setCloud_29 (fun E ce q9 H1 locs1 hE hP1 hD1 hS1 hce hcv hcl => vx_out (fun x hx => (htab x hx).elim) hlocks hce hcv hcl (fun t ht hv => hthr H1 locs1 E t (by rw [chkB_n hq9]; exact hE) hP1 hD1 hS1 hv (by rw [ht]; exact Nat.le_refl _) (fun q _ => by rw [ht])) (fun z hz => hfr _ (hS1.2.2 z hz)) (by decide) (by decide)) (fun H locs x29 hP hD hS => ?_)
    have hP : va_P D vwCl (WIN T v B O g ln un nx pl f0 f1 f2) H := hP
    have hD : va_D A (WIN T v B O g ln un nx pl f0 f1 f2) := hD
    refine lv_aload_n hx hb dX9_setCloud_32 rfl (lv_at hl 0 rfl) ?_
    refine va_get (D := D) (ci := 9) (v := .ref (v 4)) (C := RX9) (T := TX9) (N := 6) hx hb hts i9 hown hK hP 0 rfl rfl 3 (by decide) w5 (fun _ h9 => h9) rfl dX9_setCloud_33 ?_
    refine lv_aload_n hx hb dX9_setCloud_36 rfl (lv_at hl 0 rfl) ?_
    refine va_get (D := D) (ci := 9) (v := .ref ((B 0) 0)) (C := RX9) (T := TX9) (N := 6) hx hb hts i9 hown hK hP 0 rfl rfl 1 (by decide) w3 (fun _ h9 => h9) rfl dX9_setCloud_37 ?_
    refine wrVv (As := [.ref ((B 0) 0)]) (rest := []) ⟨hx, hb, hml, hown, hts⟩ (c_X0_push l D T v B O g ln un nx pl f0 f1 f2 hu hnx _) (cwV 1 hts gX9_setCloud_X0_push rfl rfl rfl (by decide +kernel) ⟨Nat.le_of_ble_eq_true rfl, Nat.le_of_ble_eq_true rfl⟩) (Foc.rfl _ _) hK hP hD hS hA 4 rfl rfl rfl hl.1 rfl (Nat.le_of_ble_eq_true rfl) ⟨Nat.le_of_ble_eq_true rfl, Nat.le_of_ble_eq_true rfl⟩ dX9_setCloud_40 (fun H locs hP hD hS => ?_)
    have hP : va_P D vwCl (WIN T v B (va_up O (3 + nx) (O 0)) g ln (if un = 8 then 8 else un + 1) ((nx + 1) % 8) pl f0 f1 f2) H := hP
    have hD : va_D A (WIN T v B (va_up O (3 + nx) (O 0)) g ln (if un = 8 then 8 else un + 1) ((nx + 1) % 8) pl f0 f1 f2) := hD
    generalize hO1 : va_up O (3 + nx) (O 0) = O1 at hP hD
    have hZ : O1 0 = O 0 := by rw [← hO1]; exact pushO_0 O nx (O 0)
    obtain ⟨hN1, -, hKn1, -, hCn1, -, -, hn1, -, hSK1⟩ := hOI.pushed hZ
    have hP : va_P D vwCl (WIN T v B O1 g ln (if un = 8 then 8 else un + 1) ((nx + 1) % 8) pl f0 f1 f2) H := hP
    have hD : va_D A (WIN T v B O1 g ln (if un = 8 then 8 else un + 1) ((nx + 1) % 8) pl f0 f1 f2) := hD
    refine lv_aload_n hx hb dX9_setCloud_43 rfl (lv_at hl 0 rfl) ?_
    refine va_get (D := D) (ci := 9) (v := .ref ((B 0) 0)) (C := RX9) (T := TX9) (N := 6) hx hb hts i9 hown hK hP 0 rfl rfl 1 (by decide) w3 (fun _ h9 => h9) rfl dX9_setCloud_44 ?_
    refine va_get (D := D) (ci := 3) (v := .ref ((B 0) 1)) (C := RX3) (T := TX3) (N := 4) hx hb hts i3 hown hK hP (14 * 0 + 0 + 11) (WIN_get (by decide) (by decide) rfl) rfl 1 (by decide) w4 (fun _ h9 => h9) rfl dX9_setCloud_47 ?_
    refine va_get (D := D) (ci := 6) (v := .ref ((B 0) 2)) (C := RX6) (T := TX6) (N := 5) hx hb hts i6 hown hK hP (14 * 0 + 1 + 11) (WIN_get (by decide) (by decide) rfl) rfl 4 (by decide) w6 (fun _ h9 => h9) rfl dX9_setCloud_50 ?_
    refine lv_iload_n hx hb dX9_setCloud_53 rfl (lv_at hl 1 rfl) ?_
    refine aldI hx hb hK hP (14 * 0 + 2 + 11) 0 (WIN_get (by decide) (by decide) rfl) rfl (j) rfl (by omega) (by decide) dX9_setCloud_54 ?_
    refine endI (r := ((O1 0) 1) j) rfl ?_
    refine lv_istore_n (lv' := [(3, .int (((O1 0) 1) j)), (0, .ref (v 0)), (1, .int (nI j)), (2, .int (z1))]) hx hb dX9_setCloud_55 rfl hl (by decide) rfl (fun ls hl => ?_)
    refine lv_aload_n hx hb dX9_setCloud_56 rfl (lv_at hl 1 rfl) ?_
    refine va_get (D := D) (ci := 9) (v := .ref ((B 0) 0)) (C := RX9) (T := TX9) (N := 6) hx hb hts i9 hown hK hP 0 rfl rfl 1 (by decide) w3 (fun _ h9 => h9) rfl dX9_setCloud_57 ?_
    refine va_get (D := D) (ci := 3) (v := .ref ((B 0) 1)) (C := RX3) (T := TX3) (N := 4) hx hb hts i3 hown hK hP (14 * 0 + 0 + 11) (WIN_get (by decide) (by decide) rfl) rfl 1 (by decide) w4 (fun _ h9 => h9) rfl dX9_setCloud_60 ?_
    refine va_get (D := D) (ci := 6) (v := .ref ((B 0) 2)) (C := RX6) (T := TX6) (N := 5) hx hb hts i6 hown hK hP (14 * 0 + 1 + 11) (WIN_get (by decide) (by decide) rfl) rfl 4 (by decide) w6 (fun _ h9 => h9) rfl dX9_setCloud_63 ?_
    refine lv_iload_n hx hb dX9_setCloud_66 rfl (lv_at hl 2 rfl) ?_
    refine lv_iload_n hx hb dX9_setCloud_67 rfl (lv_at hl 3 rfl) ?_
    refine astI hx hb hK hP hD hS (14 * 0 + 2 + 11) 0 (WIN_get (by decide) (by decide) rfl) rfl (j) rfl (by omega) (by decide) dX9_setCloud_68 (fun H locs hP hD hS => ?_)
    have hP := WIN_setP (j := 0) (k := 2) (o1 := (va_up (O1 0) 1 (va_up ((O1 0) 1) j z1))) (by decide) (by decide) hP rfl
    have hD := WIN_setD (j := 0) (k := 2) (o1 := (va_up (O1 0) 1 (va_up ((O1 0) 1) j z1))) (by decide) (by decide) hD rfl
    have hP : va_P D vwCl (WIN T v B (va_up O1 0 ((va_up (O1 0) 1 (va_up ((O1 0) 1) j z1)))) g ln (if un = 8 then 8 else un + 1) ((nx + 1) % 8) pl f0 f1 f2) H := hP
    have hD : va_D A (WIN T v B (va_up O1 0 ((va_up (O1 0) 1 (va_up ((O1 0) 1) j z1)))) g ln (if un = 8 then 8 else un + 1) ((nx + 1) % 8) pl f0 f1 f2) := hD
    refine lv_iload_n hx hb dX9_setCloud_69 rfl (lv_at hl 0 rfl) ?_
    refine endI (r := (O 0) 1 z.toNatClampNeg) (by rw [hjc, hZ]) ?_
    have hE : (WIN T v B (va_up O1 0 ((va_up (O1 0) 1 (va_up ((O1 0) 1) j z1)))) g ln (if un = 8 then 8 else un + 1) ((nx + 1) % 8) pl f0 f1 f2 : va_W) = (WIN T v B (va_up (va_up O (3 + nx) (O 0)) 0 (va_up (O 0) 1 (va_up ((O 0) 1) z.toNatClampNeg z1))) g ln (if un = 8 then 8 else un + 1) ((nx + 1) % 8) pl f0 f1 f2) := by rw [hjc, hZ, ← hO1]
    exact hret _ _ _ _ _ _ dX9_setCloud_70 (by first | (rw [chkB_n hq9]; first | exact x29 | exact hE) | (rw [chkB_f hq9]; rfl)) (by rw [← hE]; exact hP) (by rw [← hE]; exact hD) hS (by decide) (by decide)
  ·
    have c11 := bI_0.mp c11
    have hq9 : inN z C = false := by have h9 := c11; rw [hCn] at h9; exact h9
    exact vx_throwSW (cls := "java/lang/IndexOutOfBoundsException") (names := supL) (text := "no such cloud") (sa := aK 22) hx hb hl9 hown (by decide +kernel) (by decide +kernel) w1 w2 (show vk_R RX9 299 "no such cloud" (aK 22) s from hC.2.1 22 (by decide)) (vx_hat (B := badW "java/lang/IndexOutOfBoundsException") (fun w hw => hts w (List.mem_cons_of_mem _ (List.mem_append_left _ (List.mem_append_right _ hw)))) tb_301 (hC.2.2.2.2.use (by decide +kernel))) tg_301 hC.2.2.1 hC.2.2.2.1 hS (hl.1.trans hml.symm) dX9_setCloud_14 dX9_setCloud_17 dX9_setCloud_18 dX9_setCloud_21 dX9_setCloud_24 (fun x hx => (htab x hx).elim) (by decide) (Nat.le_of_ble_eq_true rfl) (Nat.le_of_ble_eq_true rfl) (Nat.le_of_ble_eq_true rfl) hlocks (fun t hv hz hk => hthr _ _ _ t (by first | (rw [chkB_n hq9]; first | exact x29 | exact hE) | (rw [chkB_f hq9]; rfl)) hP hD hS hv hz hk) (fun z hz => hfr _ (hS.2.2 z hz)) (by decide) (by decide)

set_option maxHeartbeats 4000000 in
set_option maxRecDepth 100000 in
theorem c_X9_setGlareLimit (l : Launch) (hl9 : l.stackTraces = false) (D : va_G) (T : Nat → ClassId) (aK aV : Nat → Nat) (v : Nat → Nat) (B : Nat → Nat → Nat) (O : Nat → Nat → Nat → Int32) (g : CSt) (ln un nx pl : Nat) (f0 f1 f2 : Nat → Int32) (z : Int32) (N : Nat) (K : Nat) (C : Nat) (nt : Nat) (hOI : OI (O 0) N K C nt) (hu : un ≤ 8) (hnx : nx < 8) (sz : Nat) : vx_Met l yX9_setGlareLimit wsX9_setGlareLimit ({ frames := 7, cells := 1, slots := 6, locals := 112 } : Room) (va_Pc [.ref (v 0), .int (z)] (PSc D T aK aV (WIN T v B O g ln un nx pl f0 f1 f2) sz)) (va_Qi (fun r9 (_ : Unit) => (chkB (rg z 1 14) "java/lang/IllegalArgumentException") = none ∧ r9 = ((O 0) 0 1)) (fun _ t => QS D T (va_A (WIN T v B O g ln un nx pl f0 f1 f2) sz) (WIN T v B (va_up (va_up O (3 + nx) (O 0)) 0 (dS (O 0) 1 z)) g ln (if un = 8 then 8 else un + 1) ((nx + 1) % 8) pl f0 f1 f2) t) (va_A (WIN T v B O g ln un nx pl f0 f1 f2) sz)) (vx_X (fun (_ : Unit) => True) (fun E _ t => (chkB (rg z 1 14) "java/lang/IllegalArgumentException") = some E ∧ QS D T (va_A (WIN T v B O g ln un nx pl f0 f1 f2) sz) (WIN T v B O g ln un nx pl f0 f1 f2) t) (va_A (WIN T v B O g ln un nx pl f0 f1 f2) sz)) 1 6 (va_A (WIN T v B O g ln un nx pl f0 f1 f2) sz) := by
  refine metXi (cc := cX9_setGlareLimit) (maxL := 3) (ty := .int) (by decide) rfl (by rfl) (Nat.le_of_ble_eq_true rfl) ?_
  intro p e s m args below meth c Qc XC free ls A hx hb hml hown hts hC hP hK hD hA hS hl htab hlocks hfr hret hthr
  have hown : s.vm.findClass RX9 = some m.cls := hown
  have hl : lv_has ls 3 [(0, .ref (v 0)), (1, .int (z))] := hl
  have i3 : ∀ w ∈ wsX30, w ∈ wsX9_setGlareLimit := by decide +kernel
  have i6 : ∀ w ∈ wsX60, w ∈ wsX9_setGlareLimit := by decide +kernel
  have i9 : ∀ w ∈ wsX90, w ∈ wsX9_setGlareLimit := by decide +kernel
  have w1 := hts (Cond.fieldLink RX9 29 "MoonComplaintWindow" "history" "LMoonComplaintWindow$History;") (List.mem_of_getElem? (i := 1) rfl)
  have w2 := hts (Cond.fieldLink RX9 19 "MoonComplaintWindow" "office" "LMoonComplaintWindow$Office;") (List.mem_of_getElem? (i := 2) rfl)
  have w3 := hts (Cond.fieldLink RX9 139 "MoonComplaintWindow$Office" "sky" "LMoonComplaintWindow$Sky;") (List.mem_of_getElem? (i := 3) rfl)
  have w4 := hts (Cond.fieldLink RX9 149 "MoonComplaintWindow$Sky" "glareLimit" "I") (List.mem_of_getElem? (i := 4) rfl)
  obtain ⟨hN, hN2, hKn, hK2, hCn, hC1, hC2, hn, hnt, hSK⟩ := id hOI
  refine lv_iload_n hx hb dX9_setGlareLimit_0 rfl (lv_at hl 1 rfl) ?_
  refine lv_iconst (v := 1) hx hb dX9_setGlareLimit_1 (by decide) ?_
  refine lv_bipush (v := 14) hx hb dX9_setGlareLimit_2 (by decide) ?_
  refine wxSv (As := [.int (z), .int (1), .int (14)]) (rest := []) ⟨hx, hb, hml, hown, hts⟩ (c_X9_checkRange l hl9 D T aK aV z 1 14 _) (va_cwS 3 hts gX9_setGlareLimit_X9_checkRange rfl rfl rfl (by decide +kernel) ⟨Nat.le_of_ble_eq_true rfl, Nat.le_of_ble_eq_true rfl⟩) (Foc.nil _) (Foc.nil _) hC hK hP hD hS hA rfl hl.1 rfl (Nat.le_of_ble_eq_true rfl) ⟨Nat.le_of_ble_eq_true rfl, Nat.le_of_ble_eq_true rfl⟩ dX9_setGlareLimit_4 (fun E ce q9 H1 locs1 hE hP1 hD1 hS1 hce hcv hcl => vx_out (fun x hx => (htab x hx).elim) hlocks hce hcv hcl (fun t ht hv => hthr H1 locs1 E t (by first | exact hE | (simp only [orE, true_and, hE]; done) | (simp [orE, true_and, hE]; done)) hP1 hD1 hS1 hv (by rw [ht]; exact Nat.le_refl _) (fun q _ => by rw [ht])) (fun z hz => hfr _ (hS1.2.2 z hz)) (by decide) (by decide)) (fun H locs x4 hP hD hS => ?_)
  have hP : va_P D vwCl (WIN T v B O g ln un nx pl f0 f1 f2) H := hP
  have hD : va_D A (WIN T v B O g ln un nx pl f0 f1 f2) := hD
  refine lv_aload_n hx hb dX9_setGlareLimit_7 rfl (lv_at hl 0 rfl) ?_
  refine va_get (D := D) (ci := 9) (v := .ref (v 4)) (C := RX9) (T := TX9) (N := 6) hx hb hts i9 hown hK hP 0 rfl rfl 3 (by decide) w1 (fun _ h9 => h9) rfl dX9_setGlareLimit_8 ?_
  refine lv_aload_n hx hb dX9_setGlareLimit_11 rfl (lv_at hl 0 rfl) ?_
  refine va_get (D := D) (ci := 9) (v := .ref ((B 0) 0)) (C := RX9) (T := TX9) (N := 6) hx hb hts i9 hown hK hP 0 rfl rfl 1 (by decide) w2 (fun _ h9 => h9) rfl dX9_setGlareLimit_12 ?_
  refine wrVv (As := [.ref ((B 0) 0)]) (rest := []) ⟨hx, hb, hml, hown, hts⟩ (c_X0_push l D T v B O g ln un nx pl f0 f1 f2 hu hnx _) (cwV 1 hts gX9_setGlareLimit_X0_push rfl rfl rfl (by decide +kernel) ⟨Nat.le_of_ble_eq_true rfl, Nat.le_of_ble_eq_true rfl⟩) (Foc.rfl _ _) hK hP hD hS hA 4 rfl rfl rfl hl.1 rfl (Nat.le_of_ble_eq_true rfl) ⟨Nat.le_of_ble_eq_true rfl, Nat.le_of_ble_eq_true rfl⟩ dX9_setGlareLimit_15 (fun H locs hP hD hS => ?_)
  have hP : va_P D vwCl (WIN T v B (va_up O (3 + nx) (O 0)) g ln (if un = 8 then 8 else un + 1) ((nx + 1) % 8) pl f0 f1 f2) H := hP
  have hD : va_D A (WIN T v B (va_up O (3 + nx) (O 0)) g ln (if un = 8 then 8 else un + 1) ((nx + 1) % 8) pl f0 f1 f2) := hD
  generalize hO1 : va_up O (3 + nx) (O 0) = O1 at hP hD
  have hZ : O1 0 = O 0 := by rw [← hO1]; exact pushO_0 O nx (O 0)
  obtain ⟨hN1, -, hKn1, -, hCn1, -, -, hn1, -, hSK1⟩ := hOI.pushed hZ
  have hP : va_P D vwCl (WIN T v B O1 g ln (if un = 8 then 8 else un + 1) ((nx + 1) % 8) pl f0 f1 f2) H := hP
  have hD : va_D A (WIN T v B O1 g ln (if un = 8 then 8 else un + 1) ((nx + 1) % 8) pl f0 f1 f2) := hD
  refine lv_aload_n hx hb dX9_setGlareLimit_18 rfl (lv_at hl 0 rfl) ?_
  refine va_get (D := D) (ci := 9) (v := .ref ((B 0) 0)) (C := RX9) (T := TX9) (N := 6) hx hb hts i9 hown hK hP 0 rfl rfl 1 (by decide) w2 (fun _ h9 => h9) rfl dX9_setGlareLimit_19 ?_
  refine va_get (D := D) (ci := 3) (v := .ref ((B 0) 1)) (C := RX3) (T := TX3) (N := 4) hx hb hts i3 hown hK hP (14 * 0 + 0 + 11) (WIN_get (by decide) (by decide) rfl) rfl 1 (by decide) w3 (fun _ h9 => h9) rfl dX9_setGlareLimit_22 ?_
  refine va_get (D := D) (ci := 6) (v := .int ((O1 0) 0 1)) (C := RX6) (T := TX6) (N := 5) hx hb hts i6 hown hK hP (14 * 0 + 1 + 11) (WIN_get (by decide) (by decide) rfl) rfl 0 (by decide) w4 (fun _ h9 => h9) rfl dX9_setGlareLimit_25 ?_
  refine lv_istore_n (lv' := [(2, .int ((O1 0) 0 1)), (0, .ref (v 0)), (1, .int (z))]) hx hb dX9_setGlareLimit_28 rfl hl (by decide) rfl (fun ls hl => ?_)
  refine lv_aload_n hx hb dX9_setGlareLimit_29 rfl (lv_at hl 1 rfl) ?_
  refine va_get (D := D) (ci := 9) (v := .ref ((B 0) 0)) (C := RX9) (T := TX9) (N := 6) hx hb hts i9 hown hK hP 0 rfl rfl 1 (by decide) w2 (fun _ h9 => h9) rfl dX9_setGlareLimit_30 ?_
  refine va_get (D := D) (ci := 3) (v := .ref ((B 0) 1)) (C := RX3) (T := TX3) (N := 4) hx hb hts i3 hown hK hP (14 * 0 + 0 + 11) (WIN_get (by decide) (by decide) rfl) rfl 1 (by decide) w3 (fun _ h9 => h9) rfl dX9_setGlareLimit_33 ?_
  refine lv_iload_n hx hb dX9_setGlareLimit_36 rfl (lv_at hl 2 rfl) ?_
  refine va_put (D := D) (ci := 6) (v := .int (z)) (ty := .int) (C := RX6) (T := TX6) (N := 5) hx hb hts i6 tyX6 tyX6_ok nmX6 hown hK hP hD hS (14 * 0 + 1 + 11) (WIN_get (by decide) (by decide) rfl) rfl 0 (by decide) w4 (fun _ h9 => h9) rfl (by decide +kernel) rfl rfl (Nat.le_of_ble_eq_true rfl) dX9_setGlareLimit_37 (fun H locs hP hD hS => ?_)
  have hP := WIN_setP (j := 0) (k := 1) (o1 := dS (O1 0) 1 z) (by decide) (by decide) hP rfl
  have hD := WIN_setD (j := 0) (k := 1) (o1 := dS (O1 0) 1 z) (by decide) (by decide) hD rfl
  have hP : va_P D vwCl (WIN T v B (va_up O1 0 (dS (O1 0) 1 z)) g ln (if un = 8 then 8 else un + 1) ((nx + 1) % 8) pl f0 f1 f2) H := hP
  have hD : va_D A (WIN T v B (va_up O1 0 (dS (O1 0) 1 z)) g ln (if un = 8 then 8 else un + 1) ((nx + 1) % 8) pl f0 f1 f2) := hD
  refine lv_iload_n hx hb dX9_setGlareLimit_40 rfl (lv_at hl 0 rfl) ?_
  refine endI (r := (O 0) 0 1) (by rw [hZ]) ?_
  have hE : (WIN T v B (va_up O1 0 (dS (O1 0) 1 z)) g ln (if un = 8 then 8 else un + 1) ((nx + 1) % 8) pl f0 f1 f2 : va_W) = (WIN T v B (va_up (va_up O (3 + nx) (O 0)) 0 (dS (O 0) 1 z)) g ln (if un = 8 then 8 else un + 1) ((nx + 1) % 8) pl f0 f1 f2) := by rw [hZ, ← hO1]
  exact hret _ _ _ _ _ _ dX9_setGlareLimit_41 (by first | rfl | (simp only [orE, x4]; done) | (simp only [orE, x4] <;> simp [chkB, x4]; done) | (simp [orE, chkB, x4]; done) | ((first | have x4x := Int32.not_lt.mp x4 | have x4x := Int32.not_le.mp x4 | have x4x := Int32.not_lt.mpr x4 | have x4x := Int32.not_le.mpr x4 | have x4x := x4); simp [orE, chkB, x4, x4x]; done)) (by rw [← hE]; exact hP) (by rw [← hE]; exact hD) hS (by decide) (by decide)

set_option maxHeartbeats 4000000 in
set_option maxRecDepth 100000 in
theorem c_X9_setGloomLimit (l : Launch) (hl9 : l.stackTraces = false) (D : va_G) (T : Nat → ClassId) (aK aV : Nat → Nat) (v : Nat → Nat) (B : Nat → Nat → Nat) (O : Nat → Nat → Nat → Int32) (g : CSt) (ln un nx pl : Nat) (f0 f1 f2 : Nat → Int32) (z : Int32) (N : Nat) (K : Nat) (C : Nat) (nt : Nat) (hOI : OI (O 0) N K C nt) (hu : un ≤ 8) (hnx : nx < 8) (sz : Nat) : vx_Met l yX9_setGloomLimit wsX9_setGloomLimit ({ frames := 7, cells := 1, slots := 6, locals := 112 } : Room) (va_Pc [.ref (v 0), .int (z)] (PSc D T aK aV (WIN T v B O g ln un nx pl f0 f1 f2) sz)) (va_Qi (fun r9 (_ : Unit) => (chkB (rg z 0 13) "java/lang/IllegalArgumentException") = none ∧ r9 = ((O 0) 0 2)) (fun _ t => QS D T (va_A (WIN T v B O g ln un nx pl f0 f1 f2) sz) (WIN T v B (va_up (va_up O (3 + nx) (O 0)) 0 (dS (O 0) 2 z)) g ln (if un = 8 then 8 else un + 1) ((nx + 1) % 8) pl f0 f1 f2) t) (va_A (WIN T v B O g ln un nx pl f0 f1 f2) sz)) (vx_X (fun (_ : Unit) => True) (fun E _ t => (chkB (rg z 0 13) "java/lang/IllegalArgumentException") = some E ∧ QS D T (va_A (WIN T v B O g ln un nx pl f0 f1 f2) sz) (WIN T v B O g ln un nx pl f0 f1 f2) t) (va_A (WIN T v B O g ln un nx pl f0 f1 f2) sz)) 1 6 (va_A (WIN T v B O g ln un nx pl f0 f1 f2) sz) := by
  refine metXi (cc := cX9_setGloomLimit) (maxL := 3) (ty := .int) (by decide) rfl (by rfl) (Nat.le_of_ble_eq_true rfl) ?_
  intro p e s m args below meth c Qc XC free ls A hx hb hml hown hts hC hP hK hD hA hS hl htab hlocks hfr hret hthr
  have hown : s.vm.findClass RX9 = some m.cls := hown
  have hl : lv_has ls 3 [(0, .ref (v 0)), (1, .int (z))] := hl
  have i3 : ∀ w ∈ wsX30, w ∈ wsX9_setGloomLimit := by decide +kernel
  have i6 : ∀ w ∈ wsX60, w ∈ wsX9_setGloomLimit := by decide +kernel
  have i9 : ∀ w ∈ wsX90, w ∈ wsX9_setGloomLimit := by decide +kernel
  have w1 := hts (Cond.fieldLink RX9 29 "MoonComplaintWindow" "history" "LMoonComplaintWindow$History;") (List.mem_of_getElem? (i := 1) rfl)
  have w2 := hts (Cond.fieldLink RX9 19 "MoonComplaintWindow" "office" "LMoonComplaintWindow$Office;") (List.mem_of_getElem? (i := 2) rfl)
  have w3 := hts (Cond.fieldLink RX9 139 "MoonComplaintWindow$Office" "sky" "LMoonComplaintWindow$Sky;") (List.mem_of_getElem? (i := 3) rfl)
  have w4 := hts (Cond.fieldLink RX9 152 "MoonComplaintWindow$Sky" "gloomLimit" "I") (List.mem_of_getElem? (i := 4) rfl)
  obtain ⟨hN, hN2, hKn, hK2, hCn, hC1, hC2, hn, hnt, hSK⟩ := id hOI
  refine lv_iload_n hx hb dX9_setGloomLimit_0 rfl (lv_at hl 1 rfl) ?_
  refine lv_iconst (v := 0) hx hb dX9_setGloomLimit_1 (by decide) ?_
  refine lv_bipush (v := 13) hx hb dX9_setGloomLimit_2 (by decide) ?_
  refine wxSv (As := [.int (z), .int (0), .int (13)]) (rest := []) ⟨hx, hb, hml, hown, hts⟩ (c_X9_checkRange l hl9 D T aK aV z 0 13 _) (va_cwS 3 hts gX9_setGloomLimit_X9_checkRange rfl rfl rfl (by decide +kernel) ⟨Nat.le_of_ble_eq_true rfl, Nat.le_of_ble_eq_true rfl⟩) (Foc.nil _) (Foc.nil _) hC hK hP hD hS hA rfl hl.1 rfl (Nat.le_of_ble_eq_true rfl) ⟨Nat.le_of_ble_eq_true rfl, Nat.le_of_ble_eq_true rfl⟩ dX9_setGloomLimit_4 (fun E ce q9 H1 locs1 hE hP1 hD1 hS1 hce hcv hcl => vx_out (fun x hx => (htab x hx).elim) hlocks hce hcv hcl (fun t ht hv => hthr H1 locs1 E t (by first | exact hE | (simp only [orE, true_and, hE]; done) | (simp [orE, true_and, hE]; done)) hP1 hD1 hS1 hv (by rw [ht]; exact Nat.le_refl _) (fun q _ => by rw [ht])) (fun z hz => hfr _ (hS1.2.2 z hz)) (by decide) (by decide)) (fun H locs x4 hP hD hS => ?_)
  have hP : va_P D vwCl (WIN T v B O g ln un nx pl f0 f1 f2) H := hP
  have hD : va_D A (WIN T v B O g ln un nx pl f0 f1 f2) := hD
  refine lv_aload_n hx hb dX9_setGloomLimit_7 rfl (lv_at hl 0 rfl) ?_
  refine va_get (D := D) (ci := 9) (v := .ref (v 4)) (C := RX9) (T := TX9) (N := 6) hx hb hts i9 hown hK hP 0 rfl rfl 3 (by decide) w1 (fun _ h9 => h9) rfl dX9_setGloomLimit_8 ?_
  refine lv_aload_n hx hb dX9_setGloomLimit_11 rfl (lv_at hl 0 rfl) ?_
  refine va_get (D := D) (ci := 9) (v := .ref ((B 0) 0)) (C := RX9) (T := TX9) (N := 6) hx hb hts i9 hown hK hP 0 rfl rfl 1 (by decide) w2 (fun _ h9 => h9) rfl dX9_setGloomLimit_12 ?_
  refine wrVv (As := [.ref ((B 0) 0)]) (rest := []) ⟨hx, hb, hml, hown, hts⟩ (c_X0_push l D T v B O g ln un nx pl f0 f1 f2 hu hnx _) (cwV 1 hts gX9_setGloomLimit_X0_push rfl rfl rfl (by decide +kernel) ⟨Nat.le_of_ble_eq_true rfl, Nat.le_of_ble_eq_true rfl⟩) (Foc.rfl _ _) hK hP hD hS hA 4 rfl rfl rfl hl.1 rfl (Nat.le_of_ble_eq_true rfl) ⟨Nat.le_of_ble_eq_true rfl, Nat.le_of_ble_eq_true rfl⟩ dX9_setGloomLimit_15 (fun H locs hP hD hS => ?_)
  have hP : va_P D vwCl (WIN T v B (va_up O (3 + nx) (O 0)) g ln (if un = 8 then 8 else un + 1) ((nx + 1) % 8) pl f0 f1 f2) H := hP
  have hD : va_D A (WIN T v B (va_up O (3 + nx) (O 0)) g ln (if un = 8 then 8 else un + 1) ((nx + 1) % 8) pl f0 f1 f2) := hD
  generalize hO1 : va_up O (3 + nx) (O 0) = O1 at hP hD
  have hZ : O1 0 = O 0 := by rw [← hO1]; exact pushO_0 O nx (O 0)
  obtain ⟨hN1, -, hKn1, -, hCn1, -, -, hn1, -, hSK1⟩ := hOI.pushed hZ
  have hP : va_P D vwCl (WIN T v B O1 g ln (if un = 8 then 8 else un + 1) ((nx + 1) % 8) pl f0 f1 f2) H := hP
  have hD : va_D A (WIN T v B O1 g ln (if un = 8 then 8 else un + 1) ((nx + 1) % 8) pl f0 f1 f2) := hD
  refine lv_aload_n hx hb dX9_setGloomLimit_18 rfl (lv_at hl 0 rfl) ?_
  refine va_get (D := D) (ci := 9) (v := .ref ((B 0) 0)) (C := RX9) (T := TX9) (N := 6) hx hb hts i9 hown hK hP 0 rfl rfl 1 (by decide) w2 (fun _ h9 => h9) rfl dX9_setGloomLimit_19 ?_
  refine va_get (D := D) (ci := 3) (v := .ref ((B 0) 1)) (C := RX3) (T := TX3) (N := 4) hx hb hts i3 hown hK hP (14 * 0 + 0 + 11) (WIN_get (by decide) (by decide) rfl) rfl 1 (by decide) w3 (fun _ h9 => h9) rfl dX9_setGloomLimit_22 ?_
  refine va_get (D := D) (ci := 6) (v := .int ((O1 0) 0 2)) (C := RX6) (T := TX6) (N := 5) hx hb hts i6 hown hK hP (14 * 0 + 1 + 11) (WIN_get (by decide) (by decide) rfl) rfl 1 (by decide) w4 (fun _ h9 => h9) rfl dX9_setGloomLimit_25 ?_
  refine lv_istore_n (lv' := [(2, .int ((O1 0) 0 2)), (0, .ref (v 0)), (1, .int (z))]) hx hb dX9_setGloomLimit_28 rfl hl (by decide) rfl (fun ls hl => ?_)
  refine lv_aload_n hx hb dX9_setGloomLimit_29 rfl (lv_at hl 1 rfl) ?_
  refine va_get (D := D) (ci := 9) (v := .ref ((B 0) 0)) (C := RX9) (T := TX9) (N := 6) hx hb hts i9 hown hK hP 0 rfl rfl 1 (by decide) w2 (fun _ h9 => h9) rfl dX9_setGloomLimit_30 ?_
  refine va_get (D := D) (ci := 3) (v := .ref ((B 0) 1)) (C := RX3) (T := TX3) (N := 4) hx hb hts i3 hown hK hP (14 * 0 + 0 + 11) (WIN_get (by decide) (by decide) rfl) rfl 1 (by decide) w3 (fun _ h9 => h9) rfl dX9_setGloomLimit_33 ?_
  refine lv_iload_n hx hb dX9_setGloomLimit_36 rfl (lv_at hl 2 rfl) ?_
  refine va_put (D := D) (ci := 6) (v := .int (z)) (ty := .int) (C := RX6) (T := TX6) (N := 5) hx hb hts i6 tyX6 tyX6_ok nmX6 hown hK hP hD hS (14 * 0 + 1 + 11) (WIN_get (by decide) (by decide) rfl) rfl 1 (by decide) w4 (fun _ h9 => h9) rfl (by decide +kernel) rfl rfl (Nat.le_of_ble_eq_true rfl) dX9_setGloomLimit_37 (fun H locs hP hD hS => ?_)
  have hP := WIN_setP (j := 0) (k := 1) (o1 := dS (O1 0) 2 z) (by decide) (by decide) hP rfl
  have hD := WIN_setD (j := 0) (k := 1) (o1 := dS (O1 0) 2 z) (by decide) (by decide) hD rfl
  have hP : va_P D vwCl (WIN T v B (va_up O1 0 (dS (O1 0) 2 z)) g ln (if un = 8 then 8 else un + 1) ((nx + 1) % 8) pl f0 f1 f2) H := hP
  have hD : va_D A (WIN T v B (va_up O1 0 (dS (O1 0) 2 z)) g ln (if un = 8 then 8 else un + 1) ((nx + 1) % 8) pl f0 f1 f2) := hD
  refine lv_iload_n hx hb dX9_setGloomLimit_40 rfl (lv_at hl 0 rfl) ?_
  refine endI (r := (O 0) 0 2) (by rw [hZ]) ?_
  have hE : (WIN T v B (va_up O1 0 (dS (O1 0) 2 z)) g ln (if un = 8 then 8 else un + 1) ((nx + 1) % 8) pl f0 f1 f2 : va_W) = (WIN T v B (va_up (va_up O (3 + nx) (O 0)) 0 (dS (O 0) 2 z)) g ln (if un = 8 then 8 else un + 1) ((nx + 1) % 8) pl f0 f1 f2) := by rw [hZ, ← hO1]
  exact hret _ _ _ _ _ _ dX9_setGloomLimit_41 (by first | rfl | (simp only [orE, x4]; done) | (simp only [orE, x4] <;> simp [chkB, x4]; done) | (simp [orE, chkB, x4]; done) | ((first | have x4x := Int32.not_lt.mp x4 | have x4x := Int32.not_le.mp x4 | have x4x := Int32.not_lt.mpr x4 | have x4x := Int32.not_le.mpr x4 | have x4x := x4); simp [orE, chkB, x4, x4x]; done)) (by rw [← hE]; exact hP) (by rw [← hE]; exact hD) hS (by decide) (by decide)

set_option maxHeartbeats 4000000 in
set_option maxRecDepth 100000 in
theorem c_X9_setTideLimit (l : Launch) (hl9 : l.stackTraces = false) (D : va_G) (T : Nat → ClassId) (aK aV : Nat → Nat) (v : Nat → Nat) (B : Nat → Nat → Nat) (O : Nat → Nat → Nat → Int32) (g : CSt) (ln un nx pl : Nat) (f0 f1 f2 : Nat → Int32) (z : Int32) (N : Nat) (K : Nat) (C : Nat) (nt : Nat) (hOI : OI (O 0) N K C nt) (hu : un ≤ 8) (hnx : nx < 8) (sz : Nat) : vx_Met l yX9_setTideLimit wsX9_setTideLimit ({ frames := 7, cells := 1, slots := 6, locals := 112 } : Room) (va_Pc [.ref (v 0), .int (z)] (PSc D T aK aV (WIN T v B O g ln un nx pl f0 f1 f2) sz)) (va_Qi (fun r9 (_ : Unit) => (chkB (rg z 0 7) "java/lang/IllegalArgumentException") = none ∧ r9 = ((O 0) 0 3)) (fun _ t => QS D T (va_A (WIN T v B O g ln un nx pl f0 f1 f2) sz) (WIN T v B (va_up (va_up O (3 + nx) (O 0)) 0 (dS (O 0) 3 z)) g ln (if un = 8 then 8 else un + 1) ((nx + 1) % 8) pl f0 f1 f2) t) (va_A (WIN T v B O g ln un nx pl f0 f1 f2) sz)) (vx_X (fun (_ : Unit) => True) (fun E _ t => (chkB (rg z 0 7) "java/lang/IllegalArgumentException") = some E ∧ QS D T (va_A (WIN T v B O g ln un nx pl f0 f1 f2) sz) (WIN T v B O g ln un nx pl f0 f1 f2) t) (va_A (WIN T v B O g ln un nx pl f0 f1 f2) sz)) 1 6 (va_A (WIN T v B O g ln un nx pl f0 f1 f2) sz) := by
  refine metXi (cc := cX9_setTideLimit) (maxL := 3) (ty := .int) (by decide) rfl (by rfl) (Nat.le_of_ble_eq_true rfl) ?_
  intro p e s m args below meth c Qc XC free ls A hx hb hml hown hts hC hP hK hD hA hS hl htab hlocks hfr hret hthr
  have hown : s.vm.findClass RX9 = some m.cls := hown
  have hl : lv_has ls 3 [(0, .ref (v 0)), (1, .int (z))] := hl
  have i3 : ∀ w ∈ wsX30, w ∈ wsX9_setTideLimit := by decide +kernel
  have i6 : ∀ w ∈ wsX60, w ∈ wsX9_setTideLimit := by decide +kernel
  have i9 : ∀ w ∈ wsX90, w ∈ wsX9_setTideLimit := by decide +kernel
  have w1 := hts (Cond.fieldLink RX9 29 "MoonComplaintWindow" "history" "LMoonComplaintWindow$History;") (List.mem_of_getElem? (i := 1) rfl)
  have w2 := hts (Cond.fieldLink RX9 19 "MoonComplaintWindow" "office" "LMoonComplaintWindow$Office;") (List.mem_of_getElem? (i := 2) rfl)
  have w3 := hts (Cond.fieldLink RX9 139 "MoonComplaintWindow$Office" "sky" "LMoonComplaintWindow$Sky;") (List.mem_of_getElem? (i := 3) rfl)
  have w4 := hts (Cond.fieldLink RX9 155 "MoonComplaintWindow$Sky" "tideLimit" "I") (List.mem_of_getElem? (i := 4) rfl)
  obtain ⟨hN, hN2, hKn, hK2, hCn, hC1, hC2, hn, hnt, hSK⟩ := id hOI
  refine lv_iload_n hx hb dX9_setTideLimit_0 rfl (lv_at hl 1 rfl) ?_
  refine lv_iconst (v := 0) hx hb dX9_setTideLimit_1 (by decide) ?_
  refine lv_bipush (v := 7) hx hb dX9_setTideLimit_2 (by decide) ?_
  refine wxSv (As := [.int (z), .int (0), .int (7)]) (rest := []) ⟨hx, hb, hml, hown, hts⟩ (c_X9_checkRange l hl9 D T aK aV z 0 7 _) (va_cwS 3 hts gX9_setTideLimit_X9_checkRange rfl rfl rfl (by decide +kernel) ⟨Nat.le_of_ble_eq_true rfl, Nat.le_of_ble_eq_true rfl⟩) (Foc.nil _) (Foc.nil _) hC hK hP hD hS hA rfl hl.1 rfl (Nat.le_of_ble_eq_true rfl) ⟨Nat.le_of_ble_eq_true rfl, Nat.le_of_ble_eq_true rfl⟩ dX9_setTideLimit_4 (fun E ce q9 H1 locs1 hE hP1 hD1 hS1 hce hcv hcl => vx_out (fun x hx => (htab x hx).elim) hlocks hce hcv hcl (fun t ht hv => hthr H1 locs1 E t (by first | exact hE | (simp only [orE, true_and, hE]; done) | (simp [orE, true_and, hE]; done)) hP1 hD1 hS1 hv (by rw [ht]; exact Nat.le_refl _) (fun q _ => by rw [ht])) (fun z hz => hfr _ (hS1.2.2 z hz)) (by decide) (by decide)) (fun H locs x4 hP hD hS => ?_)
  have hP : va_P D vwCl (WIN T v B O g ln un nx pl f0 f1 f2) H := hP
  have hD : va_D A (WIN T v B O g ln un nx pl f0 f1 f2) := hD
  refine lv_aload_n hx hb dX9_setTideLimit_7 rfl (lv_at hl 0 rfl) ?_
  refine va_get (D := D) (ci := 9) (v := .ref (v 4)) (C := RX9) (T := TX9) (N := 6) hx hb hts i9 hown hK hP 0 rfl rfl 3 (by decide) w1 (fun _ h9 => h9) rfl dX9_setTideLimit_8 ?_
  refine lv_aload_n hx hb dX9_setTideLimit_11 rfl (lv_at hl 0 rfl) ?_
  refine va_get (D := D) (ci := 9) (v := .ref ((B 0) 0)) (C := RX9) (T := TX9) (N := 6) hx hb hts i9 hown hK hP 0 rfl rfl 1 (by decide) w2 (fun _ h9 => h9) rfl dX9_setTideLimit_12 ?_
  refine wrVv (As := [.ref ((B 0) 0)]) (rest := []) ⟨hx, hb, hml, hown, hts⟩ (c_X0_push l D T v B O g ln un nx pl f0 f1 f2 hu hnx _) (cwV 1 hts gX9_setTideLimit_X0_push rfl rfl rfl (by decide +kernel) ⟨Nat.le_of_ble_eq_true rfl, Nat.le_of_ble_eq_true rfl⟩) (Foc.rfl _ _) hK hP hD hS hA 4 rfl rfl rfl hl.1 rfl (Nat.le_of_ble_eq_true rfl) ⟨Nat.le_of_ble_eq_true rfl, Nat.le_of_ble_eq_true rfl⟩ dX9_setTideLimit_15 (fun H locs hP hD hS => ?_)
  have hP : va_P D vwCl (WIN T v B (va_up O (3 + nx) (O 0)) g ln (if un = 8 then 8 else un + 1) ((nx + 1) % 8) pl f0 f1 f2) H := hP
  have hD : va_D A (WIN T v B (va_up O (3 + nx) (O 0)) g ln (if un = 8 then 8 else un + 1) ((nx + 1) % 8) pl f0 f1 f2) := hD
  generalize hO1 : va_up O (3 + nx) (O 0) = O1 at hP hD
  have hZ : O1 0 = O 0 := by rw [← hO1]; exact pushO_0 O nx (O 0)
  obtain ⟨hN1, -, hKn1, -, hCn1, -, -, hn1, -, hSK1⟩ := hOI.pushed hZ
  have hP : va_P D vwCl (WIN T v B O1 g ln (if un = 8 then 8 else un + 1) ((nx + 1) % 8) pl f0 f1 f2) H := hP
  have hD : va_D A (WIN T v B O1 g ln (if un = 8 then 8 else un + 1) ((nx + 1) % 8) pl f0 f1 f2) := hD
  refine lv_aload_n hx hb dX9_setTideLimit_18 rfl (lv_at hl 0 rfl) ?_
  refine va_get (D := D) (ci := 9) (v := .ref ((B 0) 0)) (C := RX9) (T := TX9) (N := 6) hx hb hts i9 hown hK hP 0 rfl rfl 1 (by decide) w2 (fun _ h9 => h9) rfl dX9_setTideLimit_19 ?_
  refine va_get (D := D) (ci := 3) (v := .ref ((B 0) 1)) (C := RX3) (T := TX3) (N := 4) hx hb hts i3 hown hK hP (14 * 0 + 0 + 11) (WIN_get (by decide) (by decide) rfl) rfl 1 (by decide) w3 (fun _ h9 => h9) rfl dX9_setTideLimit_22 ?_
  refine va_get (D := D) (ci := 6) (v := .int ((O1 0) 0 3)) (C := RX6) (T := TX6) (N := 5) hx hb hts i6 hown hK hP (14 * 0 + 1 + 11) (WIN_get (by decide) (by decide) rfl) rfl 2 (by decide) w4 (fun _ h9 => h9) rfl dX9_setTideLimit_25 ?_
  refine lv_istore_n (lv' := [(2, .int ((O1 0) 0 3)), (0, .ref (v 0)), (1, .int (z))]) hx hb dX9_setTideLimit_28 rfl hl (by decide) rfl (fun ls hl => ?_)
  refine lv_aload_n hx hb dX9_setTideLimit_29 rfl (lv_at hl 1 rfl) ?_
  refine va_get (D := D) (ci := 9) (v := .ref ((B 0) 0)) (C := RX9) (T := TX9) (N := 6) hx hb hts i9 hown hK hP 0 rfl rfl 1 (by decide) w2 (fun _ h9 => h9) rfl dX9_setTideLimit_30 ?_
  refine va_get (D := D) (ci := 3) (v := .ref ((B 0) 1)) (C := RX3) (T := TX3) (N := 4) hx hb hts i3 hown hK hP (14 * 0 + 0 + 11) (WIN_get (by decide) (by decide) rfl) rfl 1 (by decide) w3 (fun _ h9 => h9) rfl dX9_setTideLimit_33 ?_
  refine lv_iload_n hx hb dX9_setTideLimit_36 rfl (lv_at hl 2 rfl) ?_
  refine va_put (D := D) (ci := 6) (v := .int (z)) (ty := .int) (C := RX6) (T := TX6) (N := 5) hx hb hts i6 tyX6 tyX6_ok nmX6 hown hK hP hD hS (14 * 0 + 1 + 11) (WIN_get (by decide) (by decide) rfl) rfl 2 (by decide) w4 (fun _ h9 => h9) rfl (by decide +kernel) rfl rfl (Nat.le_of_ble_eq_true rfl) dX9_setTideLimit_37 (fun H locs hP hD hS => ?_)
  have hP := WIN_setP (j := 0) (k := 1) (o1 := dS (O1 0) 3 z) (by decide) (by decide) hP rfl
  have hD := WIN_setD (j := 0) (k := 1) (o1 := dS (O1 0) 3 z) (by decide) (by decide) hD rfl
  have hP : va_P D vwCl (WIN T v B (va_up O1 0 (dS (O1 0) 3 z)) g ln (if un = 8 then 8 else un + 1) ((nx + 1) % 8) pl f0 f1 f2) H := hP
  have hD : va_D A (WIN T v B (va_up O1 0 (dS (O1 0) 3 z)) g ln (if un = 8 then 8 else un + 1) ((nx + 1) % 8) pl f0 f1 f2) := hD
  refine lv_iload_n hx hb dX9_setTideLimit_40 rfl (lv_at hl 0 rfl) ?_
  refine endI (r := (O 0) 0 3) (by rw [hZ]) ?_
  have hE : (WIN T v B (va_up O1 0 (dS (O1 0) 3 z)) g ln (if un = 8 then 8 else un + 1) ((nx + 1) % 8) pl f0 f1 f2 : va_W) = (WIN T v B (va_up (va_up O (3 + nx) (O 0)) 0 (dS (O 0) 3 z)) g ln (if un = 8 then 8 else un + 1) ((nx + 1) % 8) pl f0 f1 f2) := by rw [hZ, ← hO1]
  exact hret _ _ _ _ _ _ dX9_setTideLimit_41 (by first | rfl | (simp only [orE, x4]; done) | (simp only [orE, x4] <;> simp [chkB, x4]; done) | (simp [orE, chkB, x4]; done) | ((first | have x4x := Int32.not_lt.mp x4 | have x4x := Int32.not_le.mp x4 | have x4x := Int32.not_lt.mpr x4 | have x4x := Int32.not_le.mpr x4 | have x4x := x4); simp [orE, chkB, x4, x4x]; done)) (by rw [← hE]; exact hP) (by rw [← hE]; exact hD) hS (by decide) (by decide)

set_option maxHeartbeats 4000000 in
set_option maxRecDepth 100000 in
theorem c_X9_endNights (l : Launch) (hl9 : l.stackTraces = false) (D : va_G) (T : Nat → ClassId) (aK aV : Nat → Nat) (v : Nat → Nat) (B : Nat → Nat → Nat) (O : Nat → Nat → Nat → Int32) (g : CSt) (ln un nx pl : Nat) (f0 f1 f2 : Nat → Int32) (z : Int32) (N : Nat) (K : Nat) (C : Nat) (nt : Nat) (hOI : OI (O 0) N K C nt) (hu : un ≤ 8) (hnx : nx < 8) (sz : Nat) : vx_Met l yX9_endNights wsX9_endNights ({ frames := 7, cells := 2, slots := 12, locals := 131 } : Room) (va_Pc [.ref (v 0), .int (z)] (PSc D T aK aV (WIN T v B O g ln un nx pl f0 f1 f2) sz)) (va_Qi (fun r9 (_ : Unit) => (orE (chkB (rg z 1 60) "java/lang/IllegalArgumentException") (chkB (decide (nt + z.toNatClampNeg ≤ 999)) "java/lang/IllegalStateException")) = none ∧ r9 = ((iter (endsC N K C nt) z.toNatClampNeg 0 (0, O 0)).1)) (fun _ t => QS D T (va_A (WIN T v B O g ln un nx pl f0 f1 f2) sz) (WIN T v B (va_up (va_up O (3 + nx) (O 0)) 0 ((iter (endsC N K C nt) z.toNatClampNeg 0 (0, O 0)).2)) g ln (if un = 8 then 8 else un + 1) ((nx + 1) % 8) pl f0 f1 f2) t) (va_A (WIN T v B O g ln un nx pl f0 f1 f2) sz)) (vx_X (fun (_ : Unit) => True) (fun E _ t => (orE (chkB (rg z 1 60) "java/lang/IllegalArgumentException") (chkB (decide (nt + z.toNatClampNeg ≤ 999)) "java/lang/IllegalStateException")) = some E ∧ QS D T (va_A (WIN T v B O g ln un nx pl f0 f1 f2) sz) (WIN T v B O g ln un nx pl f0 f1 f2) t) (va_A (WIN T v B O g ln un nx pl f0 f1 f2) sz)) 2 12 (va_A (WIN T v B O g ln un nx pl f0 f1 f2) sz) := by
  refine metXi (cc := cX9_endNights) (maxL := 4) (ty := .int) (by decide) rfl (by rfl) (Nat.le_of_ble_eq_true rfl) ?_
  intro p e s m args below meth c Qc XC free ls A hx hb hml hown hts hC hP hK hD hA hS hl htab hlocks hfr hret hthr
  have hown : s.vm.findClass RX9 = some m.cls := hown
  have hl : lv_has ls 4 [(0, .ref (v 0)), (1, .int (z))] := hl
  have i3 : ∀ w ∈ wsX30, w ∈ wsX9_endNights := by decide +kernel
  have i9 : ∀ w ∈ wsX90, w ∈ wsX9_endNights := by decide +kernel
  have w1 := hts (Cond.classLink RX9 82 "java/lang/IllegalStateException") (List.mem_of_getElem? (i := 1) rfl)
  have w2 := hts (Cond.initialized "java/lang/IllegalStateException") (List.mem_of_getElem? (i := 2) rfl)
  have w3 := hts (Cond.fieldLink RX9 19 "MoonComplaintWindow" "office" "LMoonComplaintWindow$Office;") (List.mem_of_getElem? (i := 3) rfl)
  have w4 := hts (Cond.fieldLink RX9 124 "MoonComplaintWindow$Office" "night" "I") (List.mem_of_getElem? (i := 4) rfl)
  have w5 := hts (Cond.fieldLink RX9 29 "MoonComplaintWindow" "history" "LMoonComplaintWindow$History;") (List.mem_of_getElem? (i := 5) rfl)
  obtain ⟨hN, hN2, hKn, hK2, hCn, hC1, hC2, hn, hnt, hSK⟩ := id hOI
  refine lv_iload_n hx hb dX9_endNights_0 rfl (lv_at hl 1 rfl) ?_
  refine lv_iconst (v := 1) hx hb dX9_endNights_1 (by decide) ?_
  refine lv_bipush (v := 60) hx hb dX9_endNights_2 (by decide) ?_
  refine wxSv (As := [.int (z), .int (1), .int (60)]) (rest := []) ⟨hx, hb, hml, hown, hts⟩ (c_X9_checkRange l hl9 D T aK aV z 1 60 _) (va_cwS 3 hts gX9_endNights_X9_checkRange rfl rfl rfl (by decide +kernel) ⟨Nat.le_of_ble_eq_true rfl, Nat.le_of_ble_eq_true rfl⟩) (Foc.nil _) (Foc.nil _) hC hK hP hD hS hA rfl hl.1 rfl (Nat.le_of_ble_eq_true rfl) ⟨Nat.le_of_ble_eq_true rfl, Nat.le_of_ble_eq_true rfl⟩ dX9_endNights_4 (fun E ce q9 H1 locs1 hE hP1 hD1 hS1 hce hcv hcl => vx_out (fun x hx => (htab x hx).elim) hlocks hce hcv hcl (fun t ht hv => hthr H1 locs1 E t (by first | exact hE | (simp only [orE, true_and, hE]; done) | (simp [orE, true_and, hE]; done)) hP1 hD1 hS1 hv (by rw [ht]; exact Nat.le_refl _) (fun q _ => by rw [ht])) (fun z hz => hfr _ (hS1.2.2 z hz)) (by decide) (by decide)) (fun H locs x4 hP hD hS => ?_)
  have hP : va_P D vwCl (WIN T v B O g ln un nx pl f0 f1 f2) H := hP
  have hD : va_D A (WIN T v B O g ln un nx pl f0 f1 f2) := hD
  have h4r := chkB_t x4
  obtain ⟨q, hq, hqz, hqc⟩ := rg_nat (n := 60) (by decide) (show rg z 0 (nI 60) = true from by simp only [rg, Bool.and_eq_true, decide_eq_true_eq] at h4r ⊢; exact ⟨Int32.le_trans (by decide) h4r.1, h4r.2⟩)
  rw [hqz] at hl
  have hl : lv_has ls 4 [(0, .ref (v 0)), (1, .int (nI q))] := hl
  refine lv_aload_n hx hb dX9_endNights_7 rfl (lv_at hl 0 rfl) ?_
  refine va_get (D := D) (ci := 9) (v := .ref ((B 0) 0)) (C := RX9) (T := TX9) (N := 6) hx hb hts i9 hown hK hP 0 rfl rfl 1 (by decide) w3 (fun _ h9 => h9) rfl dX9_endNights_8 ?_
  refine va_get (D := D) (ci := 3) (v := .int ((O 0) 0 0)) (C := RX3) (T := TX3) (N := 4) hx hb hts i3 hown hK hP (14 * 0 + 0 + 11) (WIN_get (by decide) (by decide) rfl) rfl 0 (by decide) w4 (fun _ h9 => h9) rfl dX9_endNights_11 ?_
  refine endI (r := nI nt) (hn) ?_
  refine lv_iload_n hx hb dX9_endNights_14 rfl (lv_at hl 1 rfl) ?_
  refine lv_iadd hx hb dX9_endNights_15 ?_
  refine endI (r := nI (nt + q)) (nI_add _ _) ?_
  refine lv_sipush (v := 999) hx hb dX9_endNights_16 (by decide) ?_
  refine lv_icmp_le (tgt := 33) hx hb dX9_endNights_19 (by decide) (fun c19 => ?_) (fun c19 => ?_)
  ·
    have c19 : (nt + q) ≤ 999 := (nI_leI (a := (nt + q)) (b := 999) (by omega) (by omega)).mp c19
    refine lv_aload_n hx hb dX9_endNights_33 rfl (lv_at hl 0 rfl) ?_
    refine va_get (D := D) (ci := 9) (v := .ref (v 4)) (C := RX9) (T := TX9) (N := 6) hx hb hts i9 hown hK hP 0 rfl rfl 3 (by decide) w5 (fun _ h9 => h9) rfl dX9_endNights_34 ?_
    refine lv_aload_n hx hb dX9_endNights_37 rfl (lv_at hl 0 rfl) ?_
    refine va_get (D := D) (ci := 9) (v := .ref ((B 0) 0)) (C := RX9) (T := TX9) (N := 6) hx hb hts i9 hown hK hP 0 rfl rfl 1 (by decide) w3 (fun _ h9 => h9) rfl dX9_endNights_38 ?_
    refine wrVv (As := [.ref ((B 0) 0)]) (rest := []) ⟨hx, hb, hml, hown, hts⟩ (c_X0_push l D T v B O g ln un nx pl f0 f1 f2 hu hnx _) (cwV 1 hts gX9_endNights_X0_push rfl rfl rfl (by decide +kernel) ⟨Nat.le_of_ble_eq_true rfl, Nat.le_of_ble_eq_true rfl⟩) (Foc.rfl _ _) hK hP hD hS hA 4 rfl rfl rfl hl.1 rfl (Nat.le_of_ble_eq_true rfl) ⟨Nat.le_of_ble_eq_true rfl, Nat.le_of_ble_eq_true rfl⟩ dX9_endNights_41 (fun H locs hP hD hS => ?_)
    have hP : va_P D vwCl (WIN T v B (va_up O (3 + nx) (O 0)) g ln (if un = 8 then 8 else un + 1) ((nx + 1) % 8) pl f0 f1 f2) H := hP
    have hD : va_D A (WIN T v B (va_up O (3 + nx) (O 0)) g ln (if un = 8 then 8 else un + 1) ((nx + 1) % 8) pl f0 f1 f2) := hD
    generalize hO1 : va_up O (3 + nx) (O 0) = O1 at hP hD
    have hZ : O1 0 = O 0 := by rw [← hO1]; exact pushO_0 O nx (O 0)
    obtain ⟨hN1, -, hKn1, -, hCn1, -, -, hn1, -, hSK1⟩ := hOI.pushed hZ
    have hP : va_P D vwCl (WIN T v B O1 g ln (if un = 8 then 8 else un + 1) ((nx + 1) % 8) pl f0 f1 f2) H := hP
    have hD : va_D A (WIN T v B O1 g ln (if un = 8 then 8 else un + 1) ((nx + 1) % 8) pl f0 f1 f2) := hD
    refine lv_iconst (v := 0) hx hb dX9_endNights_44 (by decide) ?_
    refine lv_istore_n (lv' := [(2, .int (0)), (0, .ref (v 0)), (1, .int (nI q))]) hx hb dX9_endNights_45 rfl hl (by decide) rfl (fun ls hl => ?_)
    refine lv_iconst (v := 0) hx hb dX9_endNights_46 (by decide) ?_
    refine lv_istore_n (lv' := [(3, .int (0)), (2, .int (0)), (0, .ref (v 0)), (1, .int (nI q))]) hx hb dX9_endNights_47 rfl hl (by decide) rfl (fun ls hl => ?_)
    have L48 : ∀ (n9 : Nat) (k : Nat) (x : Int32) (o1 : Nat → Nat → Int32), (q - k) < n9 → (k ≤ q) → (iter (endsC N K C nt) (q - k) k (x, o1) = iter (endsC N K C nt) q 0 (0, O 0)) → (OI o1 N K C (nt + k)) → ∀ (H : Heap) (locs : List Loc) (ls : Array Slot), va_P D vwCl (WIN T v B (va_up O1 0 o1) g ln (if un = 8 then 8 else un + 1) ((nx + 1) % 8) pl f0 f1 f2) H → va_D A (WIN T v B (va_up O1 0 o1) g ln (if un = 8 then 8 else un + 1) ((nx + 1) % 8) pl f0 f1 f2) → va_S A s.heap H locs → lv_has ls 4 [(3, .int (nI k)), (2, .int (x)), (0, .ref (v 0)), (1, .int (nI q))] → W p l e ({ frames := 7, cells := 2, slots := 12, locals := 131 } : Room) s m args below meth c H locs (0 + 1) (0 + 6) (vx_MQ below Qc XC args s 2 12 free) (F0 m 48 ls []) := by
      intro n9
      induction n9 with
      | zero => intro k x o1 hm9; exact absurd hm9 (Nat.not_lt_zero _)
      | succ n9 ih =>
        intro k x o1 hm9 hk9 hR hO9 H locs ls hP hD hS hl
        obtain ⟨kN, kN2, kKn, kK2, kCn, kC1, kC2, kn, knt, kSK⟩ := id hO9
        refine lv_iload_n hx hb dX9_endNights_48 rfl (lv_at hl 0 rfl) ?_
        refine lv_iload_n hx hb dX9_endNights_49 rfl (lv_at hl 3 rfl) ?_
        refine lv_icmp_ge (tgt := 69) hx hb dX9_endNights_50 (by decide) (fun c50 => ?_) (fun c50 => ?_)
        ·
          have c50 : q ≤ k := (nI_leI (a := q) (b := k) (by omega) (by omega)).mp c50
          refine lv_iload_n hx hb dX9_endNights_69 rfl (lv_at hl 1 rfl) ?_
          refine endI (r := (iter (endsC N K C nt) z.toNatClampNeg 0 (0, O 0)).1) (by rw [iter_done (by omega)] at hR; rw [hqc, ← hR]) ?_
          have hE : (WIN T v B (va_up O1 0 o1) g ln (if un = 8 then 8 else un + 1) ((nx + 1) % 8) pl f0 f1 f2 : va_W) = (WIN T v B (va_up (va_up O (3 + nx) (O 0)) 0 ((iter (endsC N K C nt) z.toNatClampNeg 0 (0, O 0)).2)) g ln (if un = 8 then 8 else un + 1) ((nx + 1) % 8) pl f0 f1 f2) := by rw [iter_done (by omega)] at hR; rw [hqc, ← hR, ← hO1]
          exact hret _ _ _ _ _ _ dX9_endNights_70 (by first | (rw [x4, hqc, chkB_n (decide_eq_true c19)]; rfl) | (rw [x4, hqc, chkB_f (decide_eq_false c19)]; rfl)) (by rw [← hE]; exact hP) (by rw [← hE]; exact hD) hS (by decide) (by decide)
        ·
          have c50 : ¬ q ≤ k := fun h9 => c50 ((nI_leI (a := q) (b := k) (by omega) (by omega)).mpr h9)
          refine lv_iload_n hx hb dX9_endNights_53 rfl (lv_at hl 1 rfl) ?_
          refine lv_aload_n hx hb dX9_endNights_54 rfl (lv_at hl 2 rfl) ?_
          refine va_get (D := D) (ci := 9) (v := .ref ((B 0) 0)) (C := RX9) (T := TX9) (N := 6) hx hb hts i9 hown hK hP 0 rfl rfl 1 (by decide) w3 (fun _ h9 => h9) rfl dX9_endNights_55 ?_
          refine wrVi (As := []) (rest := [.int (x)]) ⟨hx, hb, hml, hown, hts⟩ (c_X3_endOneNight l D T (B 0) o1 N K C (nt + k) kN kN2 kKn kK2 kCn kC1 kC2 (by omega) kn kSK _) (cwV 0 hts gX9_endNights_X3_endOneNight rfl rfl rfl (by decide +kernel) ⟨Nat.le_of_ble_eq_true rfl, Nat.le_of_ble_eq_true rfl⟩) (WIN_off (j := 0) (by decide) ((nightC N K C (nt + k) o1).2)) hK hP hD hS hA 0 rfl rfl rfl hl.1 rfl (Nat.le_of_ble_eq_true rfl) ⟨Nat.le_of_ble_eq_true rfl, Nat.le_of_ble_eq_true rfl⟩ dX9_endNights_58 (fun H locs hP hD hS => ?_)
          rw [WIN_uu] at hP hD
          have hP : va_P D vwCl (WIN T v B (va_up O1 0 ((nightC N K C (nt + k) o1).2)) g ln (if un = 8 then 8 else un + 1) ((nx + 1) % 8) pl f0 f1 f2) H := hP
          have hD : va_D A (WIN T v B (va_up O1 0 ((nightC N K C (nt + k) o1).2)) g ln (if un = 8 then 8 else un + 1) ((nx + 1) % 8) pl f0 f1 f2) := hD
          refine lv_iadd hx hb dX9_endNights_61 ?_
          refine lv_istore_n (lv' := [(2, .int (x + ((nightC N K C (nt + k) o1).1))), (3, .int (nI k)), (0, .ref (v 0)), (1, .int (nI q))]) hx hb dX9_endNights_62 rfl hl (by decide) rfl (fun ls hl => ?_)
          refine lv_iinc (v := nI (k + 1)) (lv' := [(3, .int (nI (k + 1))), (2, .int (x + ((nightC N K C (nt + k) o1).1))), (0, .ref (v 0)), (1, .int (nI q))]) hx hb dX9_endNights_63 hl (k := 1) rfl (nI_1 _) (by decide) rfl (fun ls hl => ?_)
          refine lv_goto (tgt := 48) hx hb dX9_endNights_66 (by decide) ?_
          exact ih (k + 1) (x + ((nightC N K C (nt + k) o1).1)) ((nightC N K C (nt + k) o1).2) (by omega) (by omega) (by rw [iter_step (by omega)] at hR; exact hR) (by exact hO9.night (by omega)) _ _ _ hP hD hS (lv_sub hl [0, 1, 2, 3] rfl)
    rw [← WIN_at0] at hP hD
    exact L48 _ 0 0 (O1 0) (Nat.lt_succ_self _) (by omega) (by rw [hZ]; rfl) (by exact hOI.pushed hZ) _ _ _ hP hD hS (lv_sub hl [0, 1, 2, 3] rfl)
  ·
    have c19 : ¬ (nt + q) ≤ 999 := fun h9 => c19 ((nI_leI (a := (nt + q)) (b := 999) (by omega) (by omega)).mpr h9)
    exact vx_throwSW (cls := "java/lang/IllegalStateException") (names := supL) (text := "the night would exceed the last one") (sa := aK 23) hx hb hl9 hown (by decide +kernel) (by decide +kernel) w1 w2 (show vk_R RX9 305 "the night would exceed the last one" (aK 23) s from hC.2.1 23 (by decide)) (vx_hat (B := badW "java/lang/IllegalStateException") (fun w hw => hts w (List.mem_cons_of_mem _ (List.mem_append_left _ (List.mem_append_right _ hw)))) tb_86 (hC.2.2.2.2.use (by decide +kernel))) tg_86 hC.2.2.1 hC.2.2.2.1 hS (hl.1.trans hml.symm) dX9_endNights_22 dX9_endNights_25 dX9_endNights_26 dX9_endNights_29 dX9_endNights_32 (fun x hx => (htab x hx).elim) (by decide) (Nat.le_of_ble_eq_true rfl) (Nat.le_of_ble_eq_true rfl) (Nat.le_of_ble_eq_true rfl) hlocks (fun t hv hz hk => hthr _ _ _ t (by first | (rw [x4, hqc, chkB_n (decide_eq_true c19)]; rfl) | (rw [x4, hqc, chkB_f (decide_eq_false c19)]; rfl)) hP hD hS hv hz hk) (fun z hz => hfr _ (hS.2.2 z hz)) (by decide) (by decide)

set_option maxHeartbeats 4000000 in
set_option maxRecDepth 100000 in
theorem c_X9_undo (l : Launch) (hl9 : l.stackTraces = false) (D : va_G) (T : Nat → ClassId) (aK aV : Nat → Nat) (v : Nat → Nat) (B : Nat → Nat → Nat) (O : Nat → Nat → Nat → Int32) (g : CSt) (ln un nx pl : Nat) (f0 f1 f2 : Nat → Int32) (hu : un ≤ 8) (hnx : nx < 8) (sz : Nat) : vx_Met l yX9_undo wsX9_undo ({ frames := 6, cells := 1, slots := 6, locals := 103 } : Room) (va_Pc [.ref (v 0)] (PSc D T aK aV (WIN T v B O g ln un nx pl f0 f1 f2) sz)) (va_Qi (fun r9 (_ : Unit) => (chkB (!decide (un = 0)) "java/lang/IllegalStateException") = none ∧ r9 = (nI (un - 1))) (fun _ t => QS D T (va_A (WIN T v B O g ln un nx pl f0 f1 f2) sz) (WIN T v B (va_up O 0 (O (3 + (nx + 7) % 8))) g ln (un - 1) ((nx + 7) % 8) pl f0 f1 f2) t) (va_A (WIN T v B O g ln un nx pl f0 f1 f2) sz)) (vx_X (fun (_ : Unit) => True) (fun E _ t => (chkB (!decide (un = 0)) "java/lang/IllegalStateException") = some E ∧ QS D T (va_A (WIN T v B O g ln un nx pl f0 f1 f2) sz) (WIN T v B O g ln un nx pl f0 f1 f2) t) (va_A (WIN T v B O g ln un nx pl f0 f1 f2) sz)) 1 6 (va_A (WIN T v B O g ln un nx pl f0 f1 f2) sz) := by
  refine metXi (cc := cX9_undo) (maxL := 1) (ty := .int) (by decide) rfl (by rfl) (Nat.le_of_ble_eq_true rfl) ?_
  intro p e s m args below meth c Qc XC free ls A hx hb hml hown hts hC hP hK hD hA hS hl htab hlocks hfr hret hthr
  have hown : s.vm.findClass RX9 = some m.cls := hown
  have hl : lv_has ls 1 [(0, .ref (v 0))] := hl
  have i0 : ∀ w ∈ wsX00, w ∈ wsX9_undo := by decide +kernel
  have i9 : ∀ w ∈ wsX90, w ∈ wsX9_undo := by decide +kernel
  have w1 := hts (Cond.classLink RX9 82 "java/lang/IllegalStateException") (List.mem_of_getElem? (i := 1) rfl)
  have w2 := hts (Cond.initialized "java/lang/IllegalStateException") (List.mem_of_getElem? (i := 2) rfl)
  have w3 := hts (Cond.fieldLink RX9 29 "MoonComplaintWindow" "history" "LMoonComplaintWindow$History;") (List.mem_of_getElem? (i := 3) rfl)
  have w4 := hts (Cond.fieldLink RX9 307 "MoonComplaintWindow$History" "size" "I") (List.mem_of_getElem? (i := 4) rfl)
  have w5 := hts (Cond.fieldLink RX9 19 "MoonComplaintWindow" "office" "LMoonComplaintWindow$Office;") (List.mem_of_getElem? (i := 5) rfl)
  refine lv_aload_n hx hb dX9_undo_0 rfl (lv_at hl 0 rfl) ?_
  refine va_get (D := D) (ci := 9) (v := .ref (v 4)) (C := RX9) (T := TX9) (N := 6) hx hb hts i9 hown hK hP 0 rfl rfl 3 (by decide) w3 (fun _ h9 => h9) rfl dX9_undo_1 ?_
  refine va_get (D := D) (ci := 0) (v := .int (nI un)) (C := RX0) (T := TX0) (N := 3) hx hb hts i0 hown hK hP 4 rfl rfl 0 (by decide) w4 (fun _ h9 => h9) rfl dX9_undo_4 ?_
  refine lv_if_ne (tgt := 21) hx hb dX9_undo_7 (by decide) (fun c7 => ?_) (fun c7 => ?_)
  ·
    have c7 : ¬ un = 0 := fun h9 => c7 ((nI_eq (a := un) (b := 0) (by omega) (by omega)).mpr h9)
    refine lv_aload_n hx hb dX9_undo_21 rfl (lv_at hl 0 rfl) ?_
    refine va_get (D := D) (ci := 9) (v := .ref (v 4)) (C := RX9) (T := TX9) (N := 6) hx hb hts i9 hown hK hP 0 rfl rfl 3 (by decide) w3 (fun _ h9 => h9) rfl dX9_undo_22 ?_
    refine lv_aload_n hx hb dX9_undo_25 rfl (lv_at hl 0 rfl) ?_
    refine va_get (D := D) (ci := 9) (v := .ref ((B 0) 0)) (C := RX9) (T := TX9) (N := 6) hx hb hts i9 hown hK hP 0 rfl rfl 1 (by decide) w5 (fun _ h9 => h9) rfl dX9_undo_26 ?_
    refine wrVv (As := [.ref ((B 0) 0)]) (rest := []) ⟨hx, hb, hml, hown, hts⟩ (c_X0_pop l D T v B O g ln un nx pl f0 f1 f2 hu hnx (by omega) _) (cwV 1 hts gX9_undo_X0_pop rfl rfl rfl (by decide +kernel) ⟨Nat.le_of_ble_eq_true rfl, Nat.le_of_ble_eq_true rfl⟩) (Foc.rfl _ _) hK hP hD hS hA 4 rfl rfl rfl hl.1 rfl (Nat.le_of_ble_eq_true rfl) ⟨Nat.zero_le _, Nat.zero_le _⟩ dX9_undo_29 (fun H locs hP hD hS => ?_)
    have hP : va_P D vwCl (WIN T v B (va_up O 0 (O (3 + (nx + 7) % 8))) g ln (un - 1) ((nx + 7) % 8) pl f0 f1 f2) H := hP
    have hD : va_D A (WIN T v B (va_up O 0 (O (3 + (nx + 7) % 8))) g ln (un - 1) ((nx + 7) % 8) pl f0 f1 f2) := hD
    refine lv_aload_n hx hb dX9_undo_32 rfl (lv_at hl 0 rfl) ?_
    refine va_get (D := D) (ci := 9) (v := .ref (v 4)) (C := RX9) (T := TX9) (N := 6) hx hb hts i9 hown hK hP 0 rfl rfl 3 (by decide) w3 (fun _ h9 => h9) rfl dX9_undo_33 ?_
    refine va_get (D := D) (ci := 0) (v := .int (nI (un - 1))) (C := RX0) (T := TX0) (N := 3) hx hb hts i0 hown hK hP 4 rfl rfl 0 (by decide) w4 (fun _ h9 => h9) rfl dX9_undo_36 ?_
    refine endI (r := nI (un - 1)) (by rfl) ?_
    exact hret _ _ _ _ _ _ dX9_undo_39 (by first | rfl | (simp only [orE, c7]; done) | (simp only [orE, c7] <;> simp [chkB, c7]; done) | (simp [orE, chkB, c7]; done) | ((first | have c7x := Int32.not_lt.mp c7 | have c7x := Int32.not_le.mp c7 | have c7x := Int32.not_lt.mpr c7 | have c7x := Int32.not_le.mpr c7 | have c7x := c7); simp [orE, chkB, c7, c7x]; done)) hP hD hS (by decide) (by decide)
  ·
    have c7 : un = 0 := (nI_eq (a := un) (b := 0) (by omega) (by omega)).mp c7
    exact vx_throwSW (cls := "java/lang/IllegalStateException") (names := supL) (text := "nothing to undo") (sa := aK 24) hx hb hl9 hown (by decide +kernel) (by decide +kernel) w1 w2 (show vk_R RX9 310 "nothing to undo" (aK 24) s from hC.2.1 24 (by decide)) (vx_hat (B := badW "java/lang/IllegalStateException") (fun w hw => hts w (List.mem_cons_of_mem _ (List.mem_append_right _ hw))) tb_86 (hC.2.2.2.2.use (by decide +kernel))) tg_86 hC.2.2.1 hC.2.2.2.1 hS (hl.1.trans hml.symm) dX9_undo_10 dX9_undo_13 dX9_undo_14 dX9_undo_17 dX9_undo_20 (fun x hx => (htab x hx).elim) (by decide) (Nat.le_of_ble_eq_true rfl) (Nat.le_of_ble_eq_true rfl) (Nat.le_of_ble_eq_true rfl) hlocks (fun t hv hz hk => hthr _ _ _ t (by first | rfl | (simp only [orE, c7]; done) | (simp only [orE, c7] <;> simp [chkB, c7]; done) | (simp [orE, chkB, c7]; done) | ((first | have c7x := Int32.not_lt.mp c7 | have c7x := Int32.not_le.mp c7 | have c7x := Int32.not_lt.mpr c7 | have c7x := Int32.not_le.mpr c7 | have c7x := c7); simp [orE, chkB, c7, c7x]; done)) hP hD hS hv hz hk) (fun z hz => hfr _ (hS.2.2 z hz)) (by decide) (by decide)

set_option maxHeartbeats 4000000 in
set_option maxRecDepth 100000 in
theorem c_X9_saveSnapshot (l : Launch) (hl9 : l.stackTraces = false) (D : va_G) (T : Nat → ClassId) (aK aV : Nat → Nat) (v : Nat → Nat) (B : Nat → Nat → Nat) (O : Nat → Nat → Nat → Int32) (g : CSt) (ln un nx pl : Nat) (f0 f1 f2 : Nat → Int32) (z : Int32) (sz : Nat) : vx_Met l yX9_saveSnapshot wsX9_saveSnapshot ({ frames := 7, cells := 1, slots := 6, locals := 110 } : Room) (va_Pc [.ref (v 0), .int (z)] (PSc D T aK aV (WIN T v B O g ln un nx pl f0 f1 f2) sz)) (va_Qi (fun r9 (_ : Unit) => (chkB (inN z 2) "java/lang/IndexOutOfBoundsException") = none ∧ r9 = ((O 0) 0 0)) (fun _ t => QS D T (va_A (WIN T v B O g ln un nx pl f0 f1 f2) sz) (WIN T v B (va_up O (11 + z.toNatClampNeg) (O 0)) g ln un nx pl f0 f1 (va_up f2 z.toNatClampNeg 1)) t) (va_A (WIN T v B O g ln un nx pl f0 f1 f2) sz)) (vx_X (fun (_ : Unit) => True) (fun E _ t => (chkB (inN z 2) "java/lang/IndexOutOfBoundsException") = some E ∧ QS D T (va_A (WIN T v B O g ln un nx pl f0 f1 f2) sz) (WIN T v B O g ln un nx pl f0 f1 f2) t) (va_A (WIN T v B O g ln un nx pl f0 f1 f2) sz)) 1 6 (va_A (WIN T v B O g ln un nx pl f0 f1 f2) sz) := by
  refine metXi (cc := cX9_saveSnapshot) (maxL := 2) (ty := .int) (by decide) rfl (by rfl) (Nat.le_of_ble_eq_true rfl) ?_
  intro p e s m args below meth c Qc XC free ls A hx hb hml hown hts hC hP hK hD hA hS hl htab hlocks hfr hret hthr
  have hown : s.vm.findClass RX9 = some m.cls := hown
  have hl : lv_has ls 2 [(0, .ref (v 0)), (1, .int (z))] := hl
  have i3 : ∀ w ∈ wsX30, w ∈ wsX9_saveSnapshot := by decide +kernel
  have i9 : ∀ w ∈ wsX90, w ∈ wsX9_saveSnapshot := by decide +kernel
  have w1 := hts (Cond.fieldLink RX9 36 "MoonComplaintWindow" "snapshots" "LMoonComplaintWindow$Snapshots;") (List.mem_of_getElem? (i := 1) rfl)
  have w2 := hts (Cond.fieldLink RX9 19 "MoonComplaintWindow" "office" "LMoonComplaintWindow$Office;") (List.mem_of_getElem? (i := 2) rfl)
  have w3 := hts (Cond.fieldLink RX9 124 "MoonComplaintWindow$Office" "night" "I") (List.mem_of_getElem? (i := 3) rfl)
  refine lv_iload_n hx hb dX9_saveSnapshot_0 rfl (lv_at hl 1 rfl) ?_
  refine wxSv (As := [.int (z)]) (rest := []) ⟨hx, hb, hml, hown, hts⟩ (c_X9_checkSlot l hl9 D T aK aV z _) (va_cwS 1 hts gX9_saveSnapshot_X9_checkSlot rfl rfl rfl (by decide +kernel) ⟨Nat.le_of_ble_eq_true rfl, Nat.le_of_ble_eq_true rfl⟩) (Foc.nil _) (Foc.nil _) hC hK hP hD hS hA rfl hl.1 rfl (Nat.le_of_ble_eq_true rfl) ⟨Nat.le_of_ble_eq_true rfl, Nat.le_of_ble_eq_true rfl⟩ dX9_saveSnapshot_1 (fun E ce q9 H1 locs1 hE hP1 hD1 hS1 hce hcv hcl => vx_out (fun x hx => (htab x hx).elim) hlocks hce hcv hcl (fun t ht hv => hthr H1 locs1 E t (by first | exact hE | (simp only [orE, true_and, hE]; done) | (simp [orE, true_and, hE]; done)) hP1 hD1 hS1 hv (by rw [ht]; exact Nat.le_refl _) (fun q _ => by rw [ht])) (fun z hz => hfr _ (hS1.2.2 z hz)) (by decide) (by decide)) (fun H locs x1 hP hD hS => ?_)
  have hP : va_P D vwCl (WIN T v B O g ln un nx pl f0 f1 f2) H := hP
  have hD : va_D A (WIN T v B O g ln un nx pl f0 f1 f2) := hD
  have h1r := chkB_t x1
  obtain ⟨j, hj, hjz, hjc⟩ := inN_t (by omega) h1r
  rw [hjz] at hl
  have hl : lv_has ls 2 [(0, .ref (v 0)), (1, .int (nI j))] := hl
  refine lv_aload_n hx hb dX9_saveSnapshot_4 rfl (lv_at hl 0 rfl) ?_
  refine va_get (D := D) (ci := 9) (v := .ref (v 6)) (C := RX9) (T := TX9) (N := 6) hx hb hts i9 hown hK hP 0 rfl rfl 4 (by decide) w1 (fun _ h9 => h9) rfl dX9_saveSnapshot_5 ?_
  refine lv_iload_n hx hb dX9_saveSnapshot_8 rfl (lv_at hl 1 rfl) ?_
  refine lv_aload_n hx hb dX9_saveSnapshot_9 rfl (lv_at hl 0 rfl) ?_
  refine va_get (D := D) (ci := 9) (v := .ref ((B 0) 0)) (C := RX9) (T := TX9) (N := 6) hx hb hts i9 hown hK hP 0 rfl rfl 1 (by decide) w2 (fun _ h9 => h9) rfl dX9_saveSnapshot_10 ?_
  refine wrVv (As := [.int (nI j), .ref ((B 0) 0)]) (rest := []) ⟨hx, hb, hml, hown, hts⟩ (c_X7_put l D T v B O g ln un nx pl f0 f1 f2 j hj _) (cwV 2 hts gX9_saveSnapshot_X7_put rfl rfl rfl (by decide +kernel) ⟨Nat.le_of_ble_eq_true rfl, Nat.le_of_ble_eq_true rfl⟩) (Foc.rfl _ _) hK hP hD hS hA 6 rfl rfl rfl hl.1 rfl (Nat.le_of_ble_eq_true rfl) ⟨Nat.le_of_ble_eq_true rfl, Nat.le_of_ble_eq_true rfl⟩ dX9_saveSnapshot_13 (fun H locs hP hD hS => ?_)
  have hP : va_P D vwCl (WIN T v B (va_up O (11 + j) (O 0)) g ln un nx pl f0 f1 (va_up f2 j 1)) H := hP
  have hD : va_D A (WIN T v B (va_up O (11 + j) (O 0)) g ln un nx pl f0 f1 (va_up f2 j 1)) := hD
  generalize hO1 : va_up O (11 + j) (O 0) = O1 at hP hD
  have hZ : O1 0 = O 0 := by rw [← hO1]; exact saveO_0 O j (O 0)
  have hP : va_P D vwCl (WIN T v B O1 g ln un nx pl f0 f1 (va_up f2 j 1)) H := hP
  have hD : va_D A (WIN T v B O1 g ln un nx pl f0 f1 (va_up f2 j 1)) := hD
  refine lv_aload_n hx hb dX9_saveSnapshot_16 rfl (lv_at hl 0 rfl) ?_
  refine va_get (D := D) (ci := 9) (v := .ref ((B 0) 0)) (C := RX9) (T := TX9) (N := 6) hx hb hts i9 hown hK hP 0 rfl rfl 1 (by decide) w2 (fun _ h9 => h9) rfl dX9_saveSnapshot_17 ?_
  refine va_get (D := D) (ci := 3) (v := .int ((O1 0) 0 0)) (C := RX3) (T := TX3) (N := 4) hx hb hts i3 hown hK hP (14 * 0 + 0 + 11) (WIN_get (by decide) (by decide) rfl) rfl 0 (by decide) w3 (fun _ h9 => h9) rfl dX9_saveSnapshot_20 ?_
  refine endI (r := (O 0) 0 0) (by rw [hZ]) ?_
  have hE : (WIN T v B O1 g ln un nx pl f0 f1 (va_up f2 j 1) : va_W) = (WIN T v B (va_up O (11 + z.toNatClampNeg) (O 0)) g ln un nx pl f0 f1 (va_up f2 z.toNatClampNeg 1)) := by rw [hjc, ← hO1]
  exact hret _ _ _ _ _ _ dX9_saveSnapshot_23 (by first | rfl | (simp only [orE, x1]; done) | (simp only [orE, x1] <;> simp [chkB, x1]; done) | (simp [orE, chkB, x1]; done) | ((first | have x1x := Int32.not_lt.mp x1 | have x1x := Int32.not_le.mp x1 | have x1x := Int32.not_lt.mpr x1 | have x1x := Int32.not_le.mpr x1 | have x1x := x1); simp [orE, chkB, x1, x1x]; done)) (by rw [← hE]; exact hP) (by rw [← hE]; exact hD) hS (by decide) (by decide)

set_option maxHeartbeats 4000000 in
set_option maxRecDepth 100000 in
theorem c_X9_restoreSnapshot (l : Launch) (hl9 : l.stackTraces = false) (D : va_G) (T : Nat → ClassId) (aK aV : Nat → Nat) (v : Nat → Nat) (B : Nat → Nat → Nat) (O : Nat → Nat → Nat → Int32) (g : CSt) (ln un nx pl : Nat) (f0 f1 f2 : Nat → Int32) (z : Int32) (hu : un ≤ 8) (hnx : nx < 8) (sz : Nat) : vx_Met l yX9_restoreSnapshot wsX9_restoreSnapshot ({ frames := 7, cells := 2, slots := 12, locals := 110 } : Room) (va_Pc [.ref (v 0), .int (z)] (PSc D T aK aV (WIN T v B O g ln un nx pl f0 f1 f2) sz)) (va_Qi (fun r9 (_ : Unit) => (orE (chkB (inN z 2) "java/lang/IndexOutOfBoundsException") (chkB (!decide (f2 z.toNatClampNeg = 0)) "java/util/NoSuchElementException")) = none ∧ r9 = ((O (11 + z.toNatClampNeg)) 0 0)) (fun _ t => QS D T (va_A (WIN T v B O g ln un nx pl f0 f1 f2) sz) (WIN T v B (va_up (va_up O (3 + nx) (O 0)) 0 (O (11 + z.toNatClampNeg))) g ln (if un = 8 then 8 else un + 1) ((nx + 1) % 8) pl f0 f1 f2) t) (va_A (WIN T v B O g ln un nx pl f0 f1 f2) sz)) (vx_X (fun (_ : Unit) => True) (fun E _ t => (orE (chkB (inN z 2) "java/lang/IndexOutOfBoundsException") (chkB (!decide (f2 z.toNatClampNeg = 0)) "java/util/NoSuchElementException")) = some E ∧ QS D T (va_A (WIN T v B O g ln un nx pl f0 f1 f2) sz) (WIN T v B O g ln un nx pl f0 f1 f2) t) (va_A (WIN T v B O g ln un nx pl f0 f1 f2) sz)) 2 12 (va_A (WIN T v B O g ln un nx pl f0 f1 f2) sz) := by
  refine metXi (cc := cX9_restoreSnapshot) (maxL := 2) (ty := .int) (by decide) rfl (by rfl) (Nat.le_of_ble_eq_true rfl) ?_
  intro p e s m args below meth c Qc XC free ls A hx hb hml hown hts hC hP hK hD hA hS hl htab hlocks hfr hret hthr
  have hown : s.vm.findClass RX9 = some m.cls := hown
  have hl : lv_has ls 2 [(0, .ref (v 0)), (1, .int (z))] := hl
  have i3 : ∀ w ∈ wsX30, w ∈ wsX9_restoreSnapshot := by decide +kernel
  have i7 : ∀ w ∈ wsX70, w ∈ wsX9_restoreSnapshot := by decide +kernel
  have i9 : ∀ w ∈ wsX90, w ∈ wsX9_restoreSnapshot := by decide +kernel
  have w1 := hts (Cond.classLink RX9 116 "java/util/NoSuchElementException") (List.mem_of_getElem? (i := 1) rfl)
  have w2 := hts (Cond.initialized "java/util/NoSuchElementException") (List.mem_of_getElem? (i := 2) rfl)
  have w3 := hts (Cond.fieldLink RX9 36 "MoonComplaintWindow" "snapshots" "LMoonComplaintWindow$Snapshots;") (List.mem_of_getElem? (i := 3) rfl)
  have w4 := hts (Cond.fieldLink RX9 321 "MoonComplaintWindow$Snapshots" "taken" "[Z") (List.mem_of_getElem? (i := 4) rfl)
  have w5 := hts (Cond.fieldLink RX9 29 "MoonComplaintWindow" "history" "LMoonComplaintWindow$History;") (List.mem_of_getElem? (i := 5) rfl)
  have w6 := hts (Cond.fieldLink RX9 19 "MoonComplaintWindow" "office" "LMoonComplaintWindow$Office;") (List.mem_of_getElem? (i := 6) rfl)
  have w7 := hts (Cond.fieldLink RX9 327 "MoonComplaintWindow$Snapshots" "offices" "[LMoonComplaintWindow$Office;") (List.mem_of_getElem? (i := 7) rfl)
  have w8 := hts (Cond.fieldLink RX9 124 "MoonComplaintWindow$Office" "night" "I") (List.mem_of_getElem? (i := 8) rfl)
  refine lv_iload_n hx hb dX9_restoreSnapshot_0 rfl (lv_at hl 1 rfl) ?_
  refine wxSv (As := [.int (z)]) (rest := []) ⟨hx, hb, hml, hown, hts⟩ (c_X9_checkSlot l hl9 D T aK aV z _) (va_cwS 1 hts gX9_restoreSnapshot_X9_checkSlot rfl rfl rfl (by decide +kernel) ⟨Nat.le_of_ble_eq_true rfl, Nat.le_of_ble_eq_true rfl⟩) (Foc.nil _) (Foc.nil _) hC hK hP hD hS hA rfl hl.1 rfl (Nat.le_of_ble_eq_true rfl) ⟨Nat.le_of_ble_eq_true rfl, Nat.le_of_ble_eq_true rfl⟩ dX9_restoreSnapshot_1 (fun E ce q9 H1 locs1 hE hP1 hD1 hS1 hce hcv hcl => vx_out (fun x hx => (htab x hx).elim) hlocks hce hcv hcl (fun t ht hv => hthr H1 locs1 E t (by first | exact hE | (simp only [orE, true_and, hE]; done) | (simp [orE, true_and, hE]; done)) hP1 hD1 hS1 hv (by rw [ht]; exact Nat.le_refl _) (fun q _ => by rw [ht])) (fun z hz => hfr _ (hS1.2.2 z hz)) (by decide) (by decide)) (fun H locs x1 hP hD hS => ?_)
  have hP : va_P D vwCl (WIN T v B O g ln un nx pl f0 f1 f2) H := hP
  have hD : va_D A (WIN T v B O g ln un nx pl f0 f1 f2) := hD
  have h1r := chkB_t x1
  obtain ⟨j, hj, hjz, hjc⟩ := inN_t (by omega) h1r
  rw [hjz] at hl
  have hl : lv_has ls 2 [(0, .ref (v 0)), (1, .int (nI j))] := hl
  refine lv_aload_n hx hb dX9_restoreSnapshot_4 rfl (lv_at hl 0 rfl) ?_
  refine va_get (D := D) (ci := 9) (v := .ref (v 6)) (C := RX9) (T := TX9) (N := 6) hx hb hts i9 hown hK hP 0 rfl rfl 4 (by decide) w3 (fun _ h9 => h9) rfl dX9_restoreSnapshot_5 ?_
  refine va_get (D := D) (ci := 7) (v := .ref (v 7)) (C := RX7) (T := TX7) (N := 2) hx hb hts i7 hown hK hP 6 rfl rfl 0 (by decide) w4 (fun _ h9 => h9) rfl dX9_restoreSnapshot_8 ?_
  refine lv_iload_n hx hb dX9_restoreSnapshot_11 rfl (lv_at hl 1 rfl) ?_
  refine aldZ hx hb hK hP 7 1 rfl rfl (j) rfl (by omega) (by decide) dX9_restoreSnapshot_12 ?_
  refine endI (r := f2 j) rfl ?_
  refine lv_if_ne (tgt := 27) hx hb dX9_restoreSnapshot_13 (by decide) (fun c13 => ?_) (fun c13 => ?_)
  ·
    refine lv_aload_n hx hb dX9_restoreSnapshot_27 rfl (lv_at hl 0 rfl) ?_
    refine va_get (D := D) (ci := 9) (v := .ref (v 4)) (C := RX9) (T := TX9) (N := 6) hx hb hts i9 hown hK hP 0 rfl rfl 3 (by decide) w5 (fun _ h9 => h9) rfl dX9_restoreSnapshot_28 ?_
    refine lv_aload_n hx hb dX9_restoreSnapshot_31 rfl (lv_at hl 0 rfl) ?_
    refine va_get (D := D) (ci := 9) (v := .ref ((B 0) 0)) (C := RX9) (T := TX9) (N := 6) hx hb hts i9 hown hK hP 0 rfl rfl 1 (by decide) w6 (fun _ h9 => h9) rfl dX9_restoreSnapshot_32 ?_
    refine wrVv (As := [.ref ((B 0) 0)]) (rest := []) ⟨hx, hb, hml, hown, hts⟩ (c_X0_push l D T v B O g ln un nx pl f0 f1 f2 hu hnx _) (cwV 1 hts gX9_restoreSnapshot_X0_push rfl rfl rfl (by decide +kernel) ⟨Nat.le_of_ble_eq_true rfl, Nat.le_of_ble_eq_true rfl⟩) (Foc.rfl _ _) hK hP hD hS hA 4 rfl rfl rfl hl.1 rfl (Nat.le_of_ble_eq_true rfl) ⟨Nat.le_of_ble_eq_true rfl, Nat.le_of_ble_eq_true rfl⟩ dX9_restoreSnapshot_35 (fun H locs hP hD hS => ?_)
    have hP : va_P D vwCl (WIN T v B (va_up O (3 + nx) (O 0)) g ln (if un = 8 then 8 else un + 1) ((nx + 1) % 8) pl f0 f1 f2) H := hP
    have hD : va_D A (WIN T v B (va_up O (3 + nx) (O 0)) g ln (if un = 8 then 8 else un + 1) ((nx + 1) % 8) pl f0 f1 f2) := hD
    generalize hO1 : va_up O (3 + nx) (O 0) = O1 at hP hD
    have hZ : O1 (11 + j) = O (11 + j) := by rw [← hO1]; exact pushO_s O j (O 0) hnx
    have hP : va_P D vwCl (WIN T v B O1 g ln (if un = 8 then 8 else un + 1) ((nx + 1) % 8) pl f0 f1 f2) H := hP
    have hD : va_D A (WIN T v B O1 g ln (if un = 8 then 8 else un + 1) ((nx + 1) % 8) pl f0 f1 f2) := hD
    refine lv_aload_n hx hb dX9_restoreSnapshot_38 rfl (lv_at hl 0 rfl) ?_
    refine va_get (D := D) (ci := 9) (v := .ref ((B 0) 0)) (C := RX9) (T := TX9) (N := 6) hx hb hts i9 hown hK hP 0 rfl rfl 1 (by decide) w6 (fun _ h9 => h9) rfl dX9_restoreSnapshot_39 ?_
    refine lv_aload_n hx hb dX9_restoreSnapshot_42 rfl (lv_at hl 0 rfl) ?_
    refine va_get (D := D) (ci := 9) (v := .ref (v 6)) (C := RX9) (T := TX9) (N := 6) hx hb hts i9 hown hK hP 0 rfl rfl 4 (by decide) w3 (fun _ h9 => h9) rfl dX9_restoreSnapshot_43 ?_
    refine va_get (D := D) (ci := 7) (v := .ref (v 8)) (C := RX7) (T := TX7) (N := 2) hx hb hts i7 hown hK hP 6 rfl rfl 1 (by decide) w7 (fun _ h9 => h9) rfl dX9_restoreSnapshot_46 ?_
    refine lv_iload_n hx hb dX9_restoreSnapshot_49 rfl (lv_at hl 1 rfl) ?_
    refine aldR hx hb hK hP 8 2 rfl rfl (j) rfl (by omega) (by decide) dX9_restoreSnapshot_50 ?_
    refine wrVv (As := [.ref ((B (11 + j)) 0)]) (rest := []) ⟨hx, hb, hml, hown, hts⟩ (c_X3_copyFrom l D T (B 0) (O1 0) (B (11 + j)) (O1 (11 + j)) _) (cwV 1 hts gX9_restoreSnapshot_X3_copyFrom rfl rfl rfl (by decide +kernel) ⟨Nat.le_of_ble_eq_true rfl, Nat.le_of_ble_eq_true rfl⟩) (WIN_off2 (i := 0) (j := (11 + j)) (by decide) (by omega) (by omega) ((O1 (11 + j)))) hK hP hD hS hA 0 rfl rfl rfl hl.1 rfl (Nat.le_of_ble_eq_true rfl) ⟨Nat.le_of_ble_eq_true rfl, Nat.le_of_ble_eq_true rfl⟩ dX9_restoreSnapshot_51 (fun H locs hP hD hS => ?_)
    have hP : va_P D vwCl (WIN T v B (va_up O1 0 ((O1 (11 + j)))) g ln (if un = 8 then 8 else un + 1) ((nx + 1) % 8) pl f0 f1 f2) H := hP
    have hD : va_D A (WIN T v B (va_up O1 0 ((O1 (11 + j)))) g ln (if un = 8 then 8 else un + 1) ((nx + 1) % 8) pl f0 f1 f2) := hD
    refine lv_aload_n hx hb dX9_restoreSnapshot_54 rfl (lv_at hl 0 rfl) ?_
    refine va_get (D := D) (ci := 9) (v := .ref ((B 0) 0)) (C := RX9) (T := TX9) (N := 6) hx hb hts i9 hown hK hP 0 rfl rfl 1 (by decide) w6 (fun _ h9 => h9) rfl dX9_restoreSnapshot_55 ?_
    refine va_get (D := D) (ci := 3) (v := .int (((O1 (11 + j))) 0 0)) (C := RX3) (T := TX3) (N := 4) hx hb hts i3 hown hK hP (14 * 0 + 0 + 11) (WIN_get (by decide) (by decide) rfl) rfl 0 (by decide) w8 (fun _ h9 => h9) rfl dX9_restoreSnapshot_58 ?_
    refine endI (r := (O (11 + z.toNatClampNeg)) 0 0) (by first | (rw [hjc, ← hZ]; done) | (rw [hjc, ← hZ]; rfl)) ?_
    have hE : (WIN T v B (va_up O1 0 ((O1 (11 + j)))) g ln (if un = 8 then 8 else un + 1) ((nx + 1) % 8) pl f0 f1 f2 : va_W) = (WIN T v B (va_up (va_up O (3 + nx) (O 0)) 0 (O (11 + z.toNatClampNeg))) g ln (if un = 8 then 8 else un + 1) ((nx + 1) % 8) pl f0 f1 f2) := by rw [hjc, hZ, ← hO1]
    exact hret _ _ _ _ _ _ dX9_restoreSnapshot_61 (by first | (rw [x1, hjc, chkB_n (by simp [c13])]; rfl) | (rw [x1, hjc, chkB_f (by simp [c13])]; rfl)) (by rw [← hE]; exact hP) (by rw [← hE]; exact hD) hS (by decide) (by decide)
  ·
    exact vx_throwNW (cls := "java/util/NoSuchElementException") (names := supL) (text := "the slot is empty") (sa := aK 25) hx hb hl9 hown (by decide +kernel) (by decide +kernel) w1 w2 (show vk_R RX9 325 "the slot is empty" (aK 25) s from hC.2.1 25 (by decide)) (vx_hat (B := badW "java/util/NoSuchElementException") (fun w hw => hts w (List.mem_cons_of_mem _ (List.mem_append_left _ (List.mem_append_right _ hw)))) tb_120 (hC.2.2.2.2.use (by decide +kernel))) tg_120 hC.2.2.1 hC.2.2.2.1 hS (hl.1.trans hml.symm) dX9_restoreSnapshot_16 dX9_restoreSnapshot_19 dX9_restoreSnapshot_20 dX9_restoreSnapshot_23 dX9_restoreSnapshot_26 (fun x hx => (htab x hx).elim) (by decide) (Nat.le_of_ble_eq_true rfl) (Nat.le_of_ble_eq_true rfl) (Nat.le_of_ble_eq_true rfl) hlocks (fun t hv hz hk => hthr _ _ _ t (by first | (rw [x1, hjc, chkB_n (by simp [c13])]; rfl) | (rw [x1, hjc, chkB_f (by simp [c13])]; rfl)) hP hD hS hv hz hk) (fun z hz => hfr _ (hS.2.2 z hz)) (by decide) (by decide)

set_option maxHeartbeats 4000000 in
set_option maxRecDepth 100000 in
theorem c_X9_writeComplaints (l : Launch) (hl9 : l.stackTraces = false) (D : va_G) (T : Nat → ClassId) (aK aV : Nat → Nat) (v : Nat → Nat) (B : Nat → Nat → Nat) (O : Nat → Nat → Nat → Int32) (g : CSt) (ln un nx pl : Nat) (f0 f1 f2 : Nat → Int32) (z : Int32) (N : Nat) (K : Nat) (C : Nat) (nt : Nat) (hOI : OI (O 0) N K C nt) (hSt : ∀ k, k < N → ∃ q, q < 4 ∧ (O 0) 8 k = nI q) (sz : Nat) : vx_Met l yX9_writeComplaints wsX9_writeComplaints ({ frames := 7, cells := 1, slots := 6, locals := 112 } : Room) (va_Pc [.ref (v 0), .int (z)] (PSc D T aK aV (WIN T v B O g ln un nx pl f0 f1 f2) sz)) (va_Qi (fun r9 (_ : Unit) => (chkB (rg z 0 99) "java/lang/IllegalArgumentException") = none ∧ r9 = (nI (iter (wStepC (O 0) z) N 0 (f1, 0)).2)) (fun _ t => QS D T (va_A (WIN T v B O g ln un nx pl f0 f1 f2) sz) (WIN T v B O g ln un nx ((iter (wStepC (O 0) z) N 0 (f1, 0)).2) f0 ((iter (wStepC (O 0) z) N 0 (f1, 0)).1) f2) t) (va_A (WIN T v B O g ln un nx pl f0 f1 f2) sz)) (vx_X (fun (_ : Unit) => True) (fun E _ t => (chkB (rg z 0 99) "java/lang/IllegalArgumentException") = some E ∧ QS D T (va_A (WIN T v B O g ln un nx pl f0 f1 f2) sz) (WIN T v B O g ln un nx pl f0 f1 f2) t) (va_A (WIN T v B O g ln un nx pl f0 f1 f2) sz)) 1 6 (va_A (WIN T v B O g ln un nx pl f0 f1 f2) sz) := by
  refine metXi (cc := cX9_writeComplaints) (maxL := 3) (ty := .int) (by decide) rfl (by rfl) (Nat.le_of_ble_eq_true rfl) ?_
  intro p e s m args below meth c Qc XC free ls A hx hb hml hown hts hC hP hK hD hA hS hl htab hlocks hfr hret hthr
  have hown : s.vm.findClass RX9 = some m.cls := hown
  have hl : lv_has ls 3 [(0, .ref (v 0)), (1, .int (z))] := hl
  have i3 : ∀ w ∈ wsX30, w ∈ wsX9_writeComplaints := by decide +kernel
  have i4 : ∀ w ∈ wsX40, w ∈ wsX9_writeComplaints := by decide +kernel
  have i5 : ∀ w ∈ wsX50, w ∈ wsX9_writeComplaints := by decide +kernel
  have i9 : ∀ w ∈ wsX90, w ∈ wsX9_writeComplaints := by decide +kernel
  have w1 := hts (Cond.fieldLink RX9 43 "MoonComplaintWindow" "page" "LMoonComplaintWindow$Page;") (List.mem_of_getElem? (i := 1) rfl)
  have w2 := hts (Cond.fieldLink RX9 331 "MoonComplaintWindow$Page" "length" "I") (List.mem_of_getElem? (i := 2) rfl)
  have w3 := hts (Cond.fieldLink RX9 19 "MoonComplaintWindow" "office" "LMoonComplaintWindow$Office;") (List.mem_of_getElem? (i := 3) rfl)
  have w4 := hts (Cond.fieldLink RX9 107 "MoonComplaintWindow$Office" "pile" "LMoonComplaintWindow$Pile;") (List.mem_of_getElem? (i := 4) rfl)
  have w5 := hts (Cond.fieldLink RX9 111 "MoonComplaintWindow$Pile" "total" "I") (List.mem_of_getElem? (i := 5) rfl)
  have w6 := hts (Cond.fieldLink RX9 175 "MoonComplaintWindow$Pile" "persons" "[I") (List.mem_of_getElem? (i := 6) rfl)
  have w7 := hts (Cond.fieldLink RX9 188 "MoonComplaintWindow$Pile" "states" "[I") (List.mem_of_getElem? (i := 7) rfl)
  obtain ⟨hN, hN2, hKn, hK2, hCn, hC1, hC2, hn, hnt, hSK⟩ := id hOI
  refine lv_iload_n hx hb dX9_writeComplaints_0 rfl (lv_at hl 1 rfl) ?_
  refine lv_iconst (v := 0) hx hb dX9_writeComplaints_1 (by decide) ?_
  refine lv_bipush (v := 99) hx hb dX9_writeComplaints_2 (by decide) ?_
  refine wxSv (As := [.int (z), .int (0), .int (99)]) (rest := []) ⟨hx, hb, hml, hown, hts⟩ (c_X9_checkRange l hl9 D T aK aV z 0 99 _) (va_cwS 3 hts gX9_writeComplaints_X9_checkRange rfl rfl rfl (by decide +kernel) ⟨Nat.le_of_ble_eq_true rfl, Nat.le_of_ble_eq_true rfl⟩) (Foc.nil _) (Foc.nil _) hC hK hP hD hS hA rfl hl.1 rfl (Nat.le_of_ble_eq_true rfl) ⟨Nat.le_of_ble_eq_true rfl, Nat.le_of_ble_eq_true rfl⟩ dX9_writeComplaints_4 (fun E ce q9 H1 locs1 hE hP1 hD1 hS1 hce hcv hcl => vx_out (fun x hx => (htab x hx).elim) hlocks hce hcv hcl (fun t ht hv => hthr H1 locs1 E t (by first | exact hE | (simp only [orE, true_and, hE]; done) | (simp [orE, true_and, hE]; done)) hP1 hD1 hS1 hv (by rw [ht]; exact Nat.le_refl _) (fun q _ => by rw [ht])) (fun z hz => hfr _ (hS1.2.2 z hz)) (by decide) (by decide)) (fun H locs x4 hP hD hS => ?_)
  have hP : va_P D vwCl (WIN T v B O g ln un nx pl f0 f1 f2) H := hP
  have hD : va_D A (WIN T v B O g ln un nx pl f0 f1 f2) := hD
  refine lv_aload_n hx hb dX9_writeComplaints_7 rfl (lv_at hl 0 rfl) ?_
  refine va_get (D := D) (ci := 9) (v := .ref (v 9)) (C := RX9) (T := TX9) (N := 6) hx hb hts i9 hown hK hP 0 rfl rfl 5 (by decide) w1 (fun _ h9 => h9) rfl dX9_writeComplaints_8 ?_
  refine lv_iconst (v := 0) hx hb dX9_writeComplaints_11 (by decide) ?_
  refine va_put (D := D) (ci := 4) (v := .int (0)) (ty := .int) (C := RX4) (T := TX4) (N := 2) hx hb hts i4 tyX4 tyX4_ok nmX4 hown hK hP hD hS 9 rfl rfl 0 (by decide) w2 (fun _ h9 => h9) rfl (by decide +kernel) rfl rfl (Nat.le_of_ble_eq_true rfl) dX9_writeComplaints_12 (fun H locs hP hD hS => ?_)
  have hP : va_P D vwCl (WIN T v B O g ln un nx 0 f0 f1 f2) H := hP
  have hD : va_D A (WIN T v B O g ln un nx 0 f0 f1 f2) := hD
  refine lv_iconst (v := 0) hx hb dX9_writeComplaints_15 (by decide) ?_
  refine lv_istore_n (lv' := [(2, .int (0)), (0, .ref (v 0)), (1, .int (z))]) hx hb dX9_writeComplaints_16 rfl hl (by decide) rfl (fun ls hl => ?_)
  have L17 : ∀ (n9 : Nat) (k : Nat) (f9 : Nat → Int32) (w9 : Nat), (N - k) < n9 → (k ≤ N) → (iter (wStepC (O 0) z) (N - k) k (f9, w9) = iter (wStepC (O 0) z) N 0 (f1, 0)) → (w9 ≤ 5 * k) → ∀ (H : Heap) (locs : List Loc) (ls : Array Slot), va_P D vwCl (WIN T v B O g ln un nx w9 f0 f9 f2) H → va_D A (WIN T v B O g ln un nx w9 f0 f9 f2) → va_S A s.heap H locs → lv_has ls 3 [(2, .int (nI k)), (0, .ref (v 0)), (1, .int (z))] → W p l e ({ frames := 7, cells := 1, slots := 6, locals := 112 } : Room) s m args below meth c H locs (0 + 1) (0 + 6) (vx_MQ below Qc XC args s 1 6 free) (F0 m 17 ls []) := by
    intro n9
    induction n9 with
    | zero => intro k f9 w9 hm9; exact absurd hm9 (Nat.not_lt_zero _)
    | succ n9 ih =>
      intro k f9 w9 hm9 hk9 hR hw9 H locs ls hP hD hS hl
      refine lv_iload_n hx hb dX9_writeComplaints_17 rfl (lv_at hl 0 rfl) ?_
      refine lv_aload_n hx hb dX9_writeComplaints_18 rfl (lv_at hl 1 rfl) ?_
      refine va_get (D := D) (ci := 9) (v := .ref ((B 0) 0)) (C := RX9) (T := TX9) (N := 6) hx hb hts i9 hown hK hP 0 rfl rfl 1 (by decide) w3 (fun _ h9 => h9) rfl dX9_writeComplaints_19 ?_
      refine va_get (D := D) (ci := 3) (v := .ref ((B 0) 6)) (C := RX3) (T := TX3) (N := 4) hx hb hts i3 hown hK hP (14 * 0 + 0 + 11) (WIN_get (by decide) (by decide) rfl) rfl 3 (by decide) w4 (fun _ h9 => h9) rfl dX9_writeComplaints_22 ?_
      refine va_get (D := D) (ci := 5) (v := .int ((O 0) 0 7)) (C := RX5) (T := TX5) (N := 8) hx hb hts i5 hown hK hP (14 * 0 + 6 + 11) (WIN_get (by decide) (by decide) rfl) rfl 0 (by decide) w5 (fun _ h9 => h9) rfl dX9_writeComplaints_25 ?_
      refine endI (r := nI N) (hN) ?_
      refine lv_icmp_ge (tgt := 73) hx hb dX9_writeComplaints_28 (by decide) (fun c28 => ?_) (fun c28 => ?_)
      ·
        have c28 : N ≤ k := (nI_leI (a := N) (b := k) (by omega) (by omega)).mp c28
        rw [iter_done (by omega)] at hR
        refine lv_aload_n hx hb dX9_writeComplaints_73 rfl (lv_at hl 1 rfl) ?_
        refine va_get (D := D) (ci := 9) (v := .ref (v 9)) (C := RX9) (T := TX9) (N := 6) hx hb hts i9 hown hK hP 0 rfl rfl 5 (by decide) w1 (fun _ h9 => h9) rfl dX9_writeComplaints_74 ?_
        refine va_get (D := D) (ci := 4) (v := .int (nI w9)) (C := RX4) (T := TX4) (N := 2) hx hb hts i4 hown hK hP 9 rfl rfl 0 (by decide) w2 (fun _ h9 => h9) rfl dX9_writeComplaints_77 ?_
        refine endI (r := nI (iter (wStepC (O 0) z) N 0 (f1, 0)).2) (by rw [← hR]) ?_
        have hE : (WIN T v B O g ln un nx w9 f0 f9 f2 : va_W) = (WIN T v B O g ln un nx ((iter (wStepC (O 0) z) N 0 (f1, 0)).2) f0 ((iter (wStepC (O 0) z) N 0 (f1, 0)).1) f2) := by rw [← hR]
        exact hret _ _ _ _ _ _ dX9_writeComplaints_80 (by first | rfl | (simp only [orE, x4, c28]; done) | (simp only [orE, x4, c28] <;> simp [chkB, x4, c28]; done) | (simp [orE, chkB, x4, c28]; done) | ((first | have x4x := Int32.not_lt.mp x4 | have x4x := Int32.not_le.mp x4 | have x4x := Int32.not_lt.mpr x4 | have x4x := Int32.not_le.mpr x4 | have x4x := x4); (first | have c28x := Int32.not_lt.mp c28 | have c28x := Int32.not_le.mp c28 | have c28x := Int32.not_lt.mpr c28 | have c28x := Int32.not_le.mpr c28 | have c28x := c28); simp [orE, chkB, x4, c28, x4x, c28x]; done)) (by rw [← hE]; exact hP) (by rw [← hE]; exact hD) hS (by decide) (by decide)
      ·
        have c28 : ¬ N ≤ k := fun h9 => c28 ((nI_leI (a := N) (b := k) (by omega) (by omega)).mpr h9)
        refine lv_aload_n hx hb dX9_writeComplaints_31 rfl (lv_at hl 1 rfl) ?_
        refine va_get (D := D) (ci := 9) (v := .ref ((B 0) 0)) (C := RX9) (T := TX9) (N := 6) hx hb hts i9 hown hK hP 0 rfl rfl 1 (by decide) w3 (fun _ h9 => h9) rfl dX9_writeComplaints_32 ?_
        refine va_get (D := D) (ci := 3) (v := .ref ((B 0) 6)) (C := RX3) (T := TX3) (N := 4) hx hb hts i3 hown hK hP (14 * 0 + 0 + 11) (WIN_get (by decide) (by decide) rfl) rfl 3 (by decide) w4 (fun _ h9 => h9) rfl dX9_writeComplaints_35 ?_
        refine va_get (D := D) (ci := 5) (v := .ref ((B 0) 7)) (C := RX5) (T := TX5) (N := 8) hx hb hts i5 hown hK hP (14 * 0 + 6 + 11) (WIN_get (by decide) (by decide) rfl) rfl 1 (by decide) w6 (fun _ h9 => h9) rfl dX9_writeComplaints_38 ?_
        refine lv_iload_n hx hb dX9_writeComplaints_41 rfl (lv_at hl 0 rfl) ?_
        refine aldI hx hb hK hP (14 * 0 + 7 + 11) 0 (WIN_get (by decide) (by decide) rfl) rfl (k) rfl (by omega) (by decide) dX9_writeComplaints_42 ?_
        refine endI (r := ((O 0) 4) k) rfl ?_
        refine lv_iload_n hx hb dX9_writeComplaints_43 rfl (lv_at hl 2 rfl) ?_
        refine lv_icmp_ne (tgt := 67) hx hb dX9_writeComplaints_44 (by decide) (fun c44 => ?_) (fun c44 => ?_)
        ·
          have hq3 : wStepC (O 0) z k (f9, w9) = (f9, w9) := by unfold wStepC; rw [if_neg c44]
          refine lv_iinc (v := nI (k + 1)) (lv' := [(2, .int (nI (k + 1))), (0, .ref (v 0)), (1, .int (z))]) hx hb dX9_writeComplaints_67 hl (k := 0) rfl (nI_1 _) (by decide) rfl (fun ls hl => ?_)
          refine lv_goto (tgt := 17) hx hb dX9_writeComplaints_70 (by decide) ?_
          exact ih (k + 1) f9 w9 (by omega) (by omega) (by rw [iter_step (by omega), hq3] at hR; exact hR) (by omega) _ _ _ hP hD hS (lv_sub hl [0, 1, 2] rfl)
        ·
          refine lv_aload_n hx hb dX9_writeComplaints_47 rfl (lv_at hl 1 rfl) ?_
          refine va_get (D := D) (ci := 9) (v := .ref (v 9)) (C := RX9) (T := TX9) (N := 6) hx hb hts i9 hown hK hP 0 rfl rfl 5 (by decide) w1 (fun _ h9 => h9) rfl dX9_writeComplaints_48 ?_
          refine lv_iload_n hx hb dX9_writeComplaints_51 rfl (lv_at hl 0 rfl) ?_
          refine lv_aload_n hx hb dX9_writeComplaints_52 rfl (lv_at hl 1 rfl) ?_
          refine va_get (D := D) (ci := 9) (v := .ref ((B 0) 0)) (C := RX9) (T := TX9) (N := 6) hx hb hts i9 hown hK hP 0 rfl rfl 1 (by decide) w3 (fun _ h9 => h9) rfl dX9_writeComplaints_53 ?_
          refine va_get (D := D) (ci := 3) (v := .ref ((B 0) 6)) (C := RX3) (T := TX3) (N := 4) hx hb hts i3 hown hK hP (14 * 0 + 0 + 11) (WIN_get (by decide) (by decide) rfl) rfl 3 (by decide) w4 (fun _ h9 => h9) rfl dX9_writeComplaints_56 ?_
          refine va_get (D := D) (ci := 5) (v := .ref ((B 0) 11)) (C := RX5) (T := TX5) (N := 8) hx hb hts i5 hown hK hP (14 * 0 + 6 + 11) (WIN_get (by decide) (by decide) rfl) rfl 5 (by decide) w7 (fun _ h9 => h9) rfl dX9_writeComplaints_59 ?_
          refine lv_iload_n hx hb dX9_writeComplaints_62 rfl (lv_at hl 0 rfl) ?_
          refine aldI hx hb hK hP (14 * 0 + 11 + 11) 0 (WIN_get (by decide) (by decide) rfl) rfl (k) rfl (by omega) (by decide) dX9_writeComplaints_63 ?_
          refine endI (r := ((O 0) 8) k) rfl ?_
          obtain ⟨q, hq, hq2⟩ := hSt k (by omega)
          have hq3 : wStepC (O 0) z k (f9, w9) = wLine k q (f9, w9) := by unfold wStepC; rw [if_pos c44, hq2, nI_clamp (by omega)]
          have hq4 := wLine_n k q (f9, w9)
          dsimp only at hq4
          refine endI (r := nI q) hq2 ?_
          refine wrVv (As := [.int (nI k), .int (nI q)]) (rest := []) ⟨hx, hb, hml, hown, hts⟩ (c_X4_writeLine l D T v B O g ln un nx w9 f0 f9 f2 k q (by omega) hq (by omega) _) (cwV 2 hts gX9_writeComplaints_X4_writeLine rfl rfl rfl (by decide +kernel) ⟨Nat.le_of_ble_eq_true rfl, Nat.le_of_ble_eq_true rfl⟩) (Foc.rfl _ _) hK hP hD hS hA 9 rfl rfl rfl hl.1 rfl (Nat.le_of_ble_eq_true rfl) ⟨Nat.le_of_ble_eq_true rfl, Nat.le_of_ble_eq_true rfl⟩ dX9_writeComplaints_64 (fun H locs hP hD hS => ?_)
          have hP : va_P D vwCl (WIN T v B O g ln un nx ((wLine k q (f9, w9)).2) f0 ((wLine k q (f9, w9)).1) f2) H := hP
          have hD : va_D A (WIN T v B O g ln un nx ((wLine k q (f9, w9)).2) f0 ((wLine k q (f9, w9)).1) f2) := hD
          refine lv_iinc (v := nI (k + 1)) (lv' := [(2, .int (nI (k + 1))), (0, .ref (v 0)), (1, .int (z))]) hx hb dX9_writeComplaints_67 hl (k := 0) rfl (nI_1 _) (by decide) rfl (fun ls hl => ?_)
          refine lv_goto (tgt := 17) hx hb dX9_writeComplaints_70 (by decide) ?_
          exact ih (k + 1) ((wLine k q (f9, w9)).1) ((wLine k q (f9, w9)).2) (by omega) (by omega) (by rw [iter_step (by omega), hq3] at hR; exact hR) (by omega) _ _ _ hP hD hS (lv_sub hl [0, 1, 2] rfl)
  exact L17 _ 0 f1 0 (Nat.lt_succ_self _) (by omega) (by rfl) (by omega) _ _ _ hP hD hS (lv_sub hl [0, 1, 2] rfl)

set_option maxHeartbeats 4000000 in
set_option maxRecDepth 100000 in
theorem c_X9_writtenByte (l : Launch) (hl9 : l.stackTraces = false) (D : va_G) (T : Nat → ClassId) (aK aV : Nat → Nat) (v : Nat → Nat) (B : Nat → Nat → Nat) (O : Nat → Nat → Nat → Int32) (g : CSt) (ln un nx pl : Nat) (f0 f1 f2 : Nat → Int32) (z : Int32) (hpl : pl ≤ 120) (sz : Nat) : vx_Met l yX9_writtenByte wsX9_writtenByte ({ frames := 6, cells := 1, slots := 6, locals := 90 } : Room) (va_Pc [.ref (v 0), .int (z)] (PSc D T aK aV (WIN T v B O g ln un nx pl f0 f1 f2) sz)) (va_Qi (fun r9 (_ : Unit) => (chkB (inN z pl) "java/lang/IndexOutOfBoundsException") = none ∧ r9 = (f1 z.toNatClampNeg)) (fun _ t => QS D T (va_A (WIN T v B O g ln un nx pl f0 f1 f2) sz) (WIN T v B O g ln un nx pl f0 f1 f2) t) (va_A (WIN T v B O g ln un nx pl f0 f1 f2) sz)) (vx_X (fun (_ : Unit) => True) (fun E _ t => (chkB (inN z pl) "java/lang/IndexOutOfBoundsException") = some E ∧ QS D T (va_A (WIN T v B O g ln un nx pl f0 f1 f2) sz) (WIN T v B O g ln un nx pl f0 f1 f2) t) (va_A (WIN T v B O g ln un nx pl f0 f1 f2) sz)) 1 6 (va_A (WIN T v B O g ln un nx pl f0 f1 f2) sz) := by
  refine metXi (cc := cX9_writtenByte) (maxL := 2) (ty := .int) (by decide) rfl (by rfl) (Nat.le_of_ble_eq_true rfl) ?_
  intro p e s m args below meth c Qc XC free ls A hx hb hml hown hts hC hP hK hD hA hS hl htab hlocks hfr hret hthr
  have hown : s.vm.findClass RX9 = some m.cls := hown
  have hl : lv_has ls 2 [(0, .ref (v 0)), (1, .int (z))] := hl
  have i4 : ∀ w ∈ wsX40, w ∈ wsX9_writtenByte := by decide +kernel
  have i9 : ∀ w ∈ wsX90, w ∈ wsX9_writtenByte := by decide +kernel
  have w1 := hts (Cond.classLink RX9 297 "java/lang/IndexOutOfBoundsException") (List.mem_of_getElem? (i := 1) rfl)
  have w2 := hts (Cond.initialized "java/lang/IndexOutOfBoundsException") (List.mem_of_getElem? (i := 2) rfl)
  have w3 := hts (Cond.fieldLink RX9 43 "MoonComplaintWindow" "page" "LMoonComplaintWindow$Page;") (List.mem_of_getElem? (i := 3) rfl)
  have w4 := hts (Cond.fieldLink RX9 331 "MoonComplaintWindow$Page" "length" "I") (List.mem_of_getElem? (i := 4) rfl)
  have w5 := hts (Cond.fieldLink RX9 337 "MoonComplaintWindow$Page" "bytes" "[I") (List.mem_of_getElem? (i := 5) rfl)
  refine lv_iload_n hx hb dX9_writtenByte_0 rfl (lv_at hl 1 rfl) ?_
  refine lv_if_lt (tgt := 15) hx hb dX9_writtenByte_1 (by decide) (fun c1 => ?_) (fun c1 => ?_)
  ·
    have hq9 : inN z pl = false := by simp only [inN, Bool.and_eq_false_iff, decide_eq_false_iff_not]; exact Or.inl (Int32.not_le.mpr c1)
    exact vx_throwSW (cls := "java/lang/IndexOutOfBoundsException") (names := supL) (text := "no such byte") (sa := aK 26) hx hb hl9 hown (by decide +kernel) (by decide +kernel) w1 w2 (show vk_R RX9 335 "no such byte" (aK 26) s from hC.2.1 26 (by decide)) (vx_hat (B := badW "java/lang/IndexOutOfBoundsException") (fun w hw => hts w (List.mem_cons_of_mem _ (List.mem_append_right _ hw))) tb_301 (hC.2.2.2.2.use (by decide +kernel))) tg_301 hC.2.2.1 hC.2.2.2.1 hS (hl.1.trans hml.symm) dX9_writtenByte_15 dX9_writtenByte_18 dX9_writtenByte_19 dX9_writtenByte_22 dX9_writtenByte_25 (fun x hx => (htab x hx).elim) (by decide) (Nat.le_of_ble_eq_true rfl) (Nat.le_of_ble_eq_true rfl) (Nat.le_of_ble_eq_true rfl) hlocks (fun t hv hz hk => hthr _ _ _ t (by first | exact chkB_f hq9 | exact chkB_n hq9) hP hD hS hv hz hk) (fun z hz => hfr _ (hS.2.2 z hz)) (by decide) (by decide)
  ·
    refine lv_iload_n hx hb dX9_writtenByte_4 rfl (lv_at hl 1 rfl) ?_
    refine lv_aload_n hx hb dX9_writtenByte_5 rfl (lv_at hl 0 rfl) ?_
    refine va_get (D := D) (ci := 9) (v := .ref (v 9)) (C := RX9) (T := TX9) (N := 6) hx hb hts i9 hown hK hP 0 rfl rfl 5 (by decide) w3 (fun _ h9 => h9) rfl dX9_writtenByte_6 ?_
    refine va_get (D := D) (ci := 4) (v := .int (nI pl)) (C := RX4) (T := TX4) (N := 2) hx hb hts i4 hown hK hP 9 rfl rfl 0 (by decide) w4 (fun _ h9 => h9) rfl dX9_writtenByte_9 ?_
    refine lv_icmp_lt (tgt := 26) hx hb dX9_writtenByte_12 (by decide) (fun c12 => ?_) (fun c12 => ?_)
    ·
      have hq9 : inN z pl = true := by simp only [inN, Bool.and_eq_true, decide_eq_true_eq]; exact ⟨Int32.not_lt.mp c1, c12⟩
      obtain ⟨j, hj, hjz, hjc⟩ := inN_t (by omega) hq9
      rw [hjz] at hl
      have hl : lv_has ls 2 [(0, .ref (v 0)), (1, .int (nI j))] := hl
      refine lv_aload_n hx hb dX9_writtenByte_26 rfl (lv_at hl 0 rfl) ?_
      refine va_get (D := D) (ci := 9) (v := .ref (v 9)) (C := RX9) (T := TX9) (N := 6) hx hb hts i9 hown hK hP 0 rfl rfl 5 (by decide) w3 (fun _ h9 => h9) rfl dX9_writtenByte_27 ?_
      refine va_get (D := D) (ci := 4) (v := .ref (v 10)) (C := RX4) (T := TX4) (N := 2) hx hb hts i4 hown hK hP 9 rfl rfl 1 (by decide) w5 (fun _ h9 => h9) rfl dX9_writtenByte_30 ?_
      refine lv_iload_n hx hb dX9_writtenByte_33 rfl (lv_at hl 1 rfl) ?_
      refine aldI hx hb hK hP 10 0 rfl rfl (j) rfl (by omega) (by decide) dX9_writtenByte_34 ?_
      refine endI (r := f1 j) rfl ?_
      refine endI (r := f1 z.toNatClampNeg) (by rw [hjc]; done) ?_
      exact hret _ _ _ _ _ _ dX9_writtenByte_35 (by first | exact chkB_f hq9 | exact chkB_n hq9) hP hD hS (by decide) (by decide)
    ·
      have hq9 : inN z pl = false := by simp only [inN, Bool.and_eq_false_iff, decide_eq_false_iff_not]; exact Or.inr c12
      exact vx_throwSW (cls := "java/lang/IndexOutOfBoundsException") (names := supL) (text := "no such byte") (sa := aK 26) hx hb hl9 hown (by decide +kernel) (by decide +kernel) w1 w2 (show vk_R RX9 335 "no such byte" (aK 26) s from hC.2.1 26 (by decide)) (vx_hat (B := badW "java/lang/IndexOutOfBoundsException") (fun w hw => hts w (List.mem_cons_of_mem _ (List.mem_append_right _ hw))) tb_301 (hC.2.2.2.2.use (by decide +kernel))) tg_301 hC.2.2.1 hC.2.2.2.1 hS (hl.1.trans hml.symm) dX9_writtenByte_15 dX9_writtenByte_18 dX9_writtenByte_19 dX9_writtenByte_22 dX9_writtenByte_25 (fun x hx => (htab x hx).elim) (by decide) (Nat.le_of_ble_eq_true rfl) (Nat.le_of_ble_eq_true rfl) (Nat.le_of_ble_eq_true rfl) hlocks (fun t hv hz hk => hthr _ _ _ t (by first | exact chkB_f hq9 | exact chkB_n hq9) hP hD hS hv hz hk) (fun z hz => hfr _ (hS.2.2 z hz)) (by decide) (by decide)
