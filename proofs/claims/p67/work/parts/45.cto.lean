set_option maxHeartbeats 4000000 in
set_option maxRecDepth 100000 in
theorem c_X6_init (l : Launch) (D : va_G) (T : Nat → ClassId) (b : Nat) (sz : Nat) : Met l yX6_init wsX6_init ({ frames := 1, cells := 1, slots := 10, locals := 32 } : Room) (va_Pc [.ref b] (fun U => PS D T [(b, .inr (6, [.int 0, .int 0, .int 0, .int 0, .null]))] sz U ∧ NX U)) (va_Qv (fun u : (Nat → Nat) => u 0 = b) (fun u t => QS D T (va_A [(b, .inr (6, [.int 0, .int 0, .int 0, .int 0, .null]))] sz) (SKY T u) t) (va_A [(b, .inr (6, [.int 0, .int 0, .int 0, .int 0, .null]))] sz)) 1 10 (va_A [(b, .inr (6, [.int 0, .int 0, .int 0, .int 0, .null]))] sz) := by
  refine metK (cc := cX6_init) (maxL := 1) (by decide) rfl (Nat.le_of_ble_eq_true rfl) rfl ?_
  intro p e s m args below meth c Q ls A hx hb hml hown hts hA9 hsz9 hNX hP hK hD hA hS hl hin hret
  have hown : s.vm.findClass RX6 = some m.cls := hown
  have hl : lv_has ls 1 [(0, .ref (b))] := hl
  have i6 : ∀ w ∈ wsX60, w ∈ wsX6_init := by decide +kernel
  have w1 := hts (Cond.methodLink RX6 3 objectInit) (List.mem_of_getElem? (i := 1) rfl)
  have w2 := hts (Cond.instanceMethod objectInit) (List.mem_of_getElem? (i := 2) rfl)
  have w4 := hts (Cond.arrayClass .int) (List.mem_of_getElem? (i := 4) rfl)
  have w5 := hts (Cond.fieldLink RX6 9 "MoonComplaintWindow$Sky" "clouds" "[I") (List.mem_of_getElem? (i := 5) rfl)
  have hP : va_P D vwCl ([(b, .inr (6, [.int 0, .int 0, .int 0, .int 0, .null]))]) s.heap := hP
  refine lv_aload_n hx hb dX6_init_0 rfl (lv_at hl 0 rfl) ?_
  refine W.objInit hx hb hown w1 w2 (hts _ (List.mem_of_getElem? (i := 3) rfl)) rfl (by rw [hml]; exact hl.1) rfl dX6_init_1 (Nat.le_of_ble_eq_true rfl) (Nat.le_of_ble_eq_true rfl) ?_
  refine W.eq (g2 := F0 m 4 ls []) rfl ?_
  refine lv_aload_n hx hb dX6_init_4 rfl (lv_at hl 0 rfl) ?_
  refine lv_bipush (v := 10) hx hb dX6_init_5 (by decide) ?_
  refine newI (N' := 10) hx hb w4 hK hP hD hS hA (by decide) (by decide) (by decide) (Nat.le_of_ble_eq_true rfl) (Nat.le_of_ble_eq_true rfl) dX6_init_7 (fun q7 H hP hD hS => ?_)
  have hP : va_P D vwCl ((b, .inr (6, [.int 0, .int 0, .int 0, .int 0, .null])) :: [(q7, .inl (T 0, 10, .inl fun _ => 0))]) H := hP
  have hD : va_D A ((b, .inr (6, [.int 0, .int 0, .int 0, .int 0, .null])) :: [(q7, .inl (T 0, 10, .inl fun _ => 0))]) := hD
  refine va_putF (D := D) (ci := 6) (v := .ref q7) (ty := .array .int) (C := RX6) (T := TX6) (N := 5) hx hb hts i6 tyX6 tyX6_ok nmX6 hown hK hP hD hS 0 rfl rfl 4 (by decide) w5 (fun _ h9 => h9) rfl hin rfl (by decide +kernel) rfl rfl (Nat.le_of_ble_eq_true rfl) dX6_init_9 (fun H locs hP hD hS => ?_)
  have hP : va_P D vwCl ((b, .inr (6, [.int 0, .int 0, .int 0, .int 0, .ref q7])) :: [(q7, .inl (T 0, 10, .inl fun _ => 0))]) H := hP
  have hD : va_D A ((b, .inr (6, [.int 0, .int 0, .int 0, .int 0, .ref q7])) :: [(q7, .inl (T 0, 10, .inl fun _ => 0))]) := hD
  exact hret (fun i => [b, q7].getD i 0) _ _ _ _ rfl dX6_init_12 hP hD hS

set_option maxHeartbeats 4000000 in
set_option maxRecDepth 100000 in
theorem c_X8_init (l : Launch) (D : va_G) (T : Nat → ClassId) (b : Nat) (sz : Nat) : Met l yX8_init wsX8_init ({ frames := 1, cells := 2, slots := 10, locals := 32 } : Room) (va_Pc [.ref b] (fun U => PS D T [(b, .inr (8, [.int 0, .int 0, .null, .null]))] sz U ∧ NX U)) (va_Qv (fun u : (Nat → Nat) => u 0 = b) (fun u t => QS D T (va_A [(b, .inr (8, [.int 0, .int 0, .null, .null]))] sz) (STA T u) t) (va_A [(b, .inr (8, [.int 0, .int 0, .null, .null]))] sz)) 2 10 (va_A [(b, .inr (8, [.int 0, .int 0, .null, .null]))] sz) := by
  refine metK (cc := cX8_init) (maxL := 1) (by decide) rfl (Nat.le_of_ble_eq_true rfl) rfl ?_
  intro p e s m args below meth c Q ls A hx hb hml hown hts hA9 hsz9 hNX hP hK hD hA hS hl hin hret
  have hown : s.vm.findClass RX8 = some m.cls := hown
  have hl : lv_has ls 1 [(0, .ref (b))] := hl
  have i8 : ∀ w ∈ wsX80, w ∈ wsX8_init := by decide +kernel
  have w1 := hts (Cond.methodLink RX8 3 objectInit) (List.mem_of_getElem? (i := 1) rfl)
  have w2 := hts (Cond.instanceMethod objectInit) (List.mem_of_getElem? (i := 2) rfl)
  have w4 := hts (Cond.arrayClass .int) (List.mem_of_getElem? (i := 4) rfl)
  have w5 := hts (Cond.fieldLink RX8 9 "MoonComplaintWindow$Staff" "skills" "[I") (List.mem_of_getElem? (i := 5) rfl)
  have w6 := hts (Cond.fieldLink RX8 15 "MoonComplaintWindow$Staff" "oils" "[I") (List.mem_of_getElem? (i := 6) rfl)
  have hP : va_P D vwCl ([(b, .inr (8, [.int 0, .int 0, .null, .null]))]) s.heap := hP
  refine lv_aload_n hx hb dX8_init_0 rfl (lv_at hl 0 rfl) ?_
  refine W.objInit hx hb hown w1 w2 (hts _ (List.mem_of_getElem? (i := 3) rfl)) rfl (by rw [hml]; exact hl.1) rfl dX8_init_1 (Nat.le_of_ble_eq_true rfl) (Nat.le_of_ble_eq_true rfl) ?_
  refine W.eq (g2 := F0 m 4 ls []) rfl ?_
  refine lv_aload_n hx hb dX8_init_4 rfl (lv_at hl 0 rfl) ?_
  refine lv_iconst (v := 5) hx hb dX8_init_5 (by decide) ?_
  refine newI (N' := 5) hx hb w4 hK hP hD hS hA (by decide) (by decide) (by decide) (Nat.le_of_ble_eq_true rfl) (Nat.le_of_ble_eq_true rfl) dX8_init_6 (fun q6 H hP hD hS => ?_)
  have hP : va_P D vwCl ((b, .inr (8, [.int 0, .int 0, .null, .null])) :: [(q6, .inl (T 0, 5, .inl fun _ => 0))]) H := hP
  have hD : va_D A ((b, .inr (8, [.int 0, .int 0, .null, .null])) :: [(q6, .inl (T 0, 5, .inl fun _ => 0))]) := hD
  refine va_putF (D := D) (ci := 8) (v := .ref q6) (ty := .array .int) (C := RX8) (T := TX8) (N := 4) hx hb hts i8 tyX8 tyX8_ok nmX8 hown hK hP hD hS 0 rfl rfl 2 (by decide) w5 (fun _ h9 => h9) rfl hin rfl (by decide +kernel) rfl rfl (Nat.le_of_ble_eq_true rfl) dX8_init_8 (fun H locs hP hD hS => ?_)
  have hP : va_P D vwCl ((b, .inr (8, [.int 0, .int 0, .ref q6, .null])) :: [(q6, .inl (T 0, 5, .inl fun _ => 0))]) H := hP
  have hD : va_D A ((b, .inr (8, [.int 0, .int 0, .ref q6, .null])) :: [(q6, .inl (T 0, 5, .inl fun _ => 0))]) := hD
  refine lv_aload_n hx hb dX8_init_11 rfl (lv_at hl 0 rfl) ?_
  refine lv_iconst (v := 5) hx hb dX8_init_12 (by decide) ?_
  refine newI (N' := 5) hx hb w4 hK hP hD hS hA (by decide) (by decide) (by decide) (Nat.le_of_ble_eq_true rfl) (Nat.le_of_ble_eq_true rfl) dX8_init_13 (fun q13 H hP hD hS => ?_)
  have hP : va_P D vwCl ((b, .inr (8, [.int 0, .int 0, .ref q6, .null])) :: [(q6, .inl (T 0, 5, .inl fun _ => 0)), (q13, .inl (T 0, 5, .inl fun _ => 0))]) H := hP
  have hD : va_D A ((b, .inr (8, [.int 0, .int 0, .ref q6, .null])) :: [(q6, .inl (T 0, 5, .inl fun _ => 0)), (q13, .inl (T 0, 5, .inl fun _ => 0))]) := hD
  refine va_putF (D := D) (ci := 8) (v := .ref q13) (ty := .array .int) (C := RX8) (T := TX8) (N := 4) hx hb hts i8 tyX8 tyX8_ok nmX8 hown hK hP hD hS 0 rfl rfl 3 (by decide) w6 (fun _ h9 => h9) rfl hin rfl (by decide +kernel) rfl rfl (Nat.le_of_ble_eq_true rfl) dX8_init_15 (fun H locs hP hD hS => ?_)
  have hP : va_P D vwCl ((b, .inr (8, [.int 0, .int 0, .ref q6, .ref q13])) :: [(q6, .inl (T 0, 5, .inl fun _ => 0)), (q13, .inl (T 0, 5, .inl fun _ => 0))]) H := hP
  have hD : va_D A ((b, .inr (8, [.int 0, .int 0, .ref q6, .ref q13])) :: [(q6, .inl (T 0, 5, .inl fun _ => 0)), (q13, .inl (T 0, 5, .inl fun _ => 0))]) := hD
  exact hret (fun i => [b, q6, q13].getD i 0) _ _ _ _ rfl dX8_init_18 hP hD hS

set_option maxHeartbeats 4000000 in
set_option maxRecDepth 100000 in
theorem c_X5_init (l : Launch) (D : va_G) (T : Nat → ClassId) (b : Nat) (sz : Nat) : Met l yX5_init wsX5_init ({ frames := 1, cells := 7, slots := 168, locals := 32 } : Room) (va_Pc [.ref b] (fun U => PS D T [(b, .inr (5, [.int 0, .null, .null, .null, .null, .null, .null, .null]))] sz U ∧ NX U)) (va_Qv (fun u : (Nat → Nat) => u 0 = b) (fun u t => QS D T (va_A [(b, .inr (5, [.int 0, .null, .null, .null, .null, .null, .null, .null]))] sz) (PIL T u) t) (va_A [(b, .inr (5, [.int 0, .null, .null, .null, .null, .null, .null, .null]))] sz)) 7 168 (va_A [(b, .inr (5, [.int 0, .null, .null, .null, .null, .null, .null, .null]))] sz) := by
  refine metK (cc := cX5_init) (maxL := 1) (by decide) rfl (Nat.le_of_ble_eq_true rfl) rfl ?_
  intro p e s m args below meth c Q ls A hx hb hml hown hts hA9 hsz9 hNX hP hK hD hA hS hl hin hret
  have hown : s.vm.findClass RX5 = some m.cls := hown
  have hl : lv_has ls 1 [(0, .ref (b))] := hl
  have i5 : ∀ w ∈ wsX50, w ∈ wsX5_init := by decide +kernel
  have w1 := hts (Cond.methodLink RX5 3 objectInit) (List.mem_of_getElem? (i := 1) rfl)
  have w2 := hts (Cond.instanceMethod objectInit) (List.mem_of_getElem? (i := 2) rfl)
  have w4 := hts (Cond.arrayClass .int) (List.mem_of_getElem? (i := 4) rfl)
  have w5 := hts (Cond.fieldLink RX5 9 "MoonComplaintWindow$Pile" "persons" "[I") (List.mem_of_getElem? (i := 5) rfl)
  have w6 := hts (Cond.fieldLink RX5 15 "MoonComplaintWindow$Pile" "sorts" "[I") (List.mem_of_getElem? (i := 6) rfl)
  have w7 := hts (Cond.fieldLink RX5 18 "MoonComplaintWindow$Pile" "angers" "[I") (List.mem_of_getElem? (i := 7) rfl)
  have w8 := hts (Cond.fieldLink RX5 21 "MoonComplaintWindow$Pile" "filed" "[I") (List.mem_of_getElem? (i := 8) rfl)
  have w9 := hts (Cond.fieldLink RX5 24 "MoonComplaintWindow$Pile" "states" "[I") (List.mem_of_getElem? (i := 9) rfl)
  have w10 := hts (Cond.fieldLink RX5 27 "MoonComplaintWindow$Pile" "closed" "[I") (List.mem_of_getElem? (i := 10) rfl)
  have w11 := hts (Cond.fieldLink RX5 30 "MoonComplaintWindow$Pile" "clerks" "[I") (List.mem_of_getElem? (i := 11) rfl)
  have hP : va_P D vwCl ([(b, .inr (5, [.int 0, .null, .null, .null, .null, .null, .null, .null]))]) s.heap := hP
  refine lv_aload_n hx hb dX5_init_0 rfl (lv_at hl 0 rfl) ?_
  refine W.objInit hx hb hown w1 w2 (hts _ (List.mem_of_getElem? (i := 3) rfl)) rfl (by rw [hml]; exact hl.1) rfl dX5_init_1 (Nat.le_of_ble_eq_true rfl) (Nat.le_of_ble_eq_true rfl) ?_
  refine W.eq (g2 := F0 m 4 ls []) rfl ?_
  refine lv_aload_n hx hb dX5_init_4 rfl (lv_at hl 0 rfl) ?_
  refine lv_bipush (v := 24) hx hb dX5_init_5 (by decide) ?_
  refine newI (N' := 24) hx hb w4 hK hP hD hS hA (by decide) (by decide) (by decide) (Nat.le_of_ble_eq_true rfl) (Nat.le_of_ble_eq_true rfl) dX5_init_7 (fun q7 H hP hD hS => ?_)
  have hP : va_P D vwCl ((b, .inr (5, [.int 0, .null, .null, .null, .null, .null, .null, .null])) :: [(q7, .inl (T 0, 24, .inl fun _ => 0))]) H := hP
  have hD : va_D A ((b, .inr (5, [.int 0, .null, .null, .null, .null, .null, .null, .null])) :: [(q7, .inl (T 0, 24, .inl fun _ => 0))]) := hD
  refine va_putF (D := D) (ci := 5) (v := .ref q7) (ty := .array .int) (C := RX5) (T := TX5) (N := 8) hx hb hts i5 tyX5 tyX5_ok nmX5 hown hK hP hD hS 0 rfl rfl 1 (by decide) w5 (fun _ h9 => h9) rfl hin rfl (by decide +kernel) rfl rfl (Nat.le_of_ble_eq_true rfl) dX5_init_9 (fun H locs hP hD hS => ?_)
  have hP : va_P D vwCl ((b, .inr (5, [.int 0, .ref q7, .null, .null, .null, .null, .null, .null])) :: [(q7, .inl (T 0, 24, .inl fun _ => 0))]) H := hP
  have hD : va_D A ((b, .inr (5, [.int 0, .ref q7, .null, .null, .null, .null, .null, .null])) :: [(q7, .inl (T 0, 24, .inl fun _ => 0))]) := hD
  refine lv_aload_n hx hb dX5_init_12 rfl (lv_at hl 0 rfl) ?_
  refine lv_bipush (v := 24) hx hb dX5_init_13 (by decide) ?_
  refine newI (N' := 24) hx hb w4 hK hP hD hS hA (by decide) (by decide) (by decide) (Nat.le_of_ble_eq_true rfl) (Nat.le_of_ble_eq_true rfl) dX5_init_15 (fun q15 H hP hD hS => ?_)
  have hP : va_P D vwCl ((b, .inr (5, [.int 0, .ref q7, .null, .null, .null, .null, .null, .null])) :: [(q7, .inl (T 0, 24, .inl fun _ => 0)), (q15, .inl (T 0, 24, .inl fun _ => 0))]) H := hP
  have hD : va_D A ((b, .inr (5, [.int 0, .ref q7, .null, .null, .null, .null, .null, .null])) :: [(q7, .inl (T 0, 24, .inl fun _ => 0)), (q15, .inl (T 0, 24, .inl fun _ => 0))]) := hD
  refine va_putF (D := D) (ci := 5) (v := .ref q15) (ty := .array .int) (C := RX5) (T := TX5) (N := 8) hx hb hts i5 tyX5 tyX5_ok nmX5 hown hK hP hD hS 0 rfl rfl 2 (by decide) w6 (fun _ h9 => h9) rfl hin rfl (by decide +kernel) rfl rfl (Nat.le_of_ble_eq_true rfl) dX5_init_17 (fun H locs hP hD hS => ?_)
  have hP : va_P D vwCl ((b, .inr (5, [.int 0, .ref q7, .ref q15, .null, .null, .null, .null, .null])) :: [(q7, .inl (T 0, 24, .inl fun _ => 0)), (q15, .inl (T 0, 24, .inl fun _ => 0))]) H := hP
  have hD : va_D A ((b, .inr (5, [.int 0, .ref q7, .ref q15, .null, .null, .null, .null, .null])) :: [(q7, .inl (T 0, 24, .inl fun _ => 0)), (q15, .inl (T 0, 24, .inl fun _ => 0))]) := hD
  refine lv_aload_n hx hb dX5_init_20 rfl (lv_at hl 0 rfl) ?_
  refine lv_bipush (v := 24) hx hb dX5_init_21 (by decide) ?_
  refine newI (N' := 24) hx hb w4 hK hP hD hS hA (by decide) (by decide) (by decide) (Nat.le_of_ble_eq_true rfl) (Nat.le_of_ble_eq_true rfl) dX5_init_23 (fun q23 H hP hD hS => ?_)
  have hP : va_P D vwCl ((b, .inr (5, [.int 0, .ref q7, .ref q15, .null, .null, .null, .null, .null])) :: [(q7, .inl (T 0, 24, .inl fun _ => 0)), (q15, .inl (T 0, 24, .inl fun _ => 0)), (q23, .inl (T 0, 24, .inl fun _ => 0))]) H := hP
  have hD : va_D A ((b, .inr (5, [.int 0, .ref q7, .ref q15, .null, .null, .null, .null, .null])) :: [(q7, .inl (T 0, 24, .inl fun _ => 0)), (q15, .inl (T 0, 24, .inl fun _ => 0)), (q23, .inl (T 0, 24, .inl fun _ => 0))]) := hD
  refine va_putF (D := D) (ci := 5) (v := .ref q23) (ty := .array .int) (C := RX5) (T := TX5) (N := 8) hx hb hts i5 tyX5 tyX5_ok nmX5 hown hK hP hD hS 0 rfl rfl 3 (by decide) w7 (fun _ h9 => h9) rfl hin rfl (by decide +kernel) rfl rfl (Nat.le_of_ble_eq_true rfl) dX5_init_25 (fun H locs hP hD hS => ?_)
  have hP : va_P D vwCl ((b, .inr (5, [.int 0, .ref q7, .ref q15, .ref q23, .null, .null, .null, .null])) :: [(q7, .inl (T 0, 24, .inl fun _ => 0)), (q15, .inl (T 0, 24, .inl fun _ => 0)), (q23, .inl (T 0, 24, .inl fun _ => 0))]) H := hP
  have hD : va_D A ((b, .inr (5, [.int 0, .ref q7, .ref q15, .ref q23, .null, .null, .null, .null])) :: [(q7, .inl (T 0, 24, .inl fun _ => 0)), (q15, .inl (T 0, 24, .inl fun _ => 0)), (q23, .inl (T 0, 24, .inl fun _ => 0))]) := hD
  refine lv_aload_n hx hb dX5_init_28 rfl (lv_at hl 0 rfl) ?_
  refine lv_bipush (v := 24) hx hb dX5_init_29 (by decide) ?_
  refine newI (N' := 24) hx hb w4 hK hP hD hS hA (by decide) (by decide) (by decide) (Nat.le_of_ble_eq_true rfl) (Nat.le_of_ble_eq_true rfl) dX5_init_31 (fun q31 H hP hD hS => ?_)
  have hP : va_P D vwCl ((b, .inr (5, [.int 0, .ref q7, .ref q15, .ref q23, .null, .null, .null, .null])) :: [(q7, .inl (T 0, 24, .inl fun _ => 0)), (q15, .inl (T 0, 24, .inl fun _ => 0)), (q23, .inl (T 0, 24, .inl fun _ => 0)), (q31, .inl (T 0, 24, .inl fun _ => 0))]) H := hP
  have hD : va_D A ((b, .inr (5, [.int 0, .ref q7, .ref q15, .ref q23, .null, .null, .null, .null])) :: [(q7, .inl (T 0, 24, .inl fun _ => 0)), (q15, .inl (T 0, 24, .inl fun _ => 0)), (q23, .inl (T 0, 24, .inl fun _ => 0)), (q31, .inl (T 0, 24, .inl fun _ => 0))]) := hD
  refine va_putF (D := D) (ci := 5) (v := .ref q31) (ty := .array .int) (C := RX5) (T := TX5) (N := 8) hx hb hts i5 tyX5 tyX5_ok nmX5 hown hK hP hD hS 0 rfl rfl 4 (by decide) w8 (fun _ h9 => h9) rfl hin rfl (by decide +kernel) rfl rfl (Nat.le_of_ble_eq_true rfl) dX5_init_33 (fun H locs hP hD hS => ?_)
  have hP : va_P D vwCl ((b, .inr (5, [.int 0, .ref q7, .ref q15, .ref q23, .ref q31, .null, .null, .null])) :: [(q7, .inl (T 0, 24, .inl fun _ => 0)), (q15, .inl (T 0, 24, .inl fun _ => 0)), (q23, .inl (T 0, 24, .inl fun _ => 0)), (q31, .inl (T 0, 24, .inl fun _ => 0))]) H := hP
  have hD : va_D A ((b, .inr (5, [.int 0, .ref q7, .ref q15, .ref q23, .ref q31, .null, .null, .null])) :: [(q7, .inl (T 0, 24, .inl fun _ => 0)), (q15, .inl (T 0, 24, .inl fun _ => 0)), (q23, .inl (T 0, 24, .inl fun _ => 0)), (q31, .inl (T 0, 24, .inl fun _ => 0))]) := hD
  refine lv_aload_n hx hb dX5_init_36 rfl (lv_at hl 0 rfl) ?_
  refine lv_bipush (v := 24) hx hb dX5_init_37 (by decide) ?_
  refine newI (N' := 24) hx hb w4 hK hP hD hS hA (by decide) (by decide) (by decide) (Nat.le_of_ble_eq_true rfl) (Nat.le_of_ble_eq_true rfl) dX5_init_39 (fun q39 H hP hD hS => ?_)
  have hP : va_P D vwCl ((b, .inr (5, [.int 0, .ref q7, .ref q15, .ref q23, .ref q31, .null, .null, .null])) :: [(q7, .inl (T 0, 24, .inl fun _ => 0)), (q15, .inl (T 0, 24, .inl fun _ => 0)), (q23, .inl (T 0, 24, .inl fun _ => 0)), (q31, .inl (T 0, 24, .inl fun _ => 0)), (q39, .inl (T 0, 24, .inl fun _ => 0))]) H := hP
  have hD : va_D A ((b, .inr (5, [.int 0, .ref q7, .ref q15, .ref q23, .ref q31, .null, .null, .null])) :: [(q7, .inl (T 0, 24, .inl fun _ => 0)), (q15, .inl (T 0, 24, .inl fun _ => 0)), (q23, .inl (T 0, 24, .inl fun _ => 0)), (q31, .inl (T 0, 24, .inl fun _ => 0)), (q39, .inl (T 0, 24, .inl fun _ => 0))]) := hD
  refine va_putF (D := D) (ci := 5) (v := .ref q39) (ty := .array .int) (C := RX5) (T := TX5) (N := 8) hx hb hts i5 tyX5 tyX5_ok nmX5 hown hK hP hD hS 0 rfl rfl 5 (by decide) w9 (fun _ h9 => h9) rfl hin rfl (by decide +kernel) rfl rfl (Nat.le_of_ble_eq_true rfl) dX5_init_41 (fun H locs hP hD hS => ?_)
  have hP : va_P D vwCl ((b, .inr (5, [.int 0, .ref q7, .ref q15, .ref q23, .ref q31, .ref q39, .null, .null])) :: [(q7, .inl (T 0, 24, .inl fun _ => 0)), (q15, .inl (T 0, 24, .inl fun _ => 0)), (q23, .inl (T 0, 24, .inl fun _ => 0)), (q31, .inl (T 0, 24, .inl fun _ => 0)), (q39, .inl (T 0, 24, .inl fun _ => 0))]) H := hP
  have hD : va_D A ((b, .inr (5, [.int 0, .ref q7, .ref q15, .ref q23, .ref q31, .ref q39, .null, .null])) :: [(q7, .inl (T 0, 24, .inl fun _ => 0)), (q15, .inl (T 0, 24, .inl fun _ => 0)), (q23, .inl (T 0, 24, .inl fun _ => 0)), (q31, .inl (T 0, 24, .inl fun _ => 0)), (q39, .inl (T 0, 24, .inl fun _ => 0))]) := hD
  refine lv_aload_n hx hb dX5_init_44 rfl (lv_at hl 0 rfl) ?_
  refine lv_bipush (v := 24) hx hb dX5_init_45 (by decide) ?_
  refine newI (N' := 24) hx hb w4 hK hP hD hS hA (by decide) (by decide) (by decide) (Nat.le_of_ble_eq_true rfl) (Nat.le_of_ble_eq_true rfl) dX5_init_47 (fun q47 H hP hD hS => ?_)
  have hP : va_P D vwCl ((b, .inr (5, [.int 0, .ref q7, .ref q15, .ref q23, .ref q31, .ref q39, .null, .null])) :: [(q7, .inl (T 0, 24, .inl fun _ => 0)), (q15, .inl (T 0, 24, .inl fun _ => 0)), (q23, .inl (T 0, 24, .inl fun _ => 0)), (q31, .inl (T 0, 24, .inl fun _ => 0)), (q39, .inl (T 0, 24, .inl fun _ => 0)), (q47, .inl (T 0, 24, .inl fun _ => 0))]) H := hP
  have hD : va_D A ((b, .inr (5, [.int 0, .ref q7, .ref q15, .ref q23, .ref q31, .ref q39, .null, .null])) :: [(q7, .inl (T 0, 24, .inl fun _ => 0)), (q15, .inl (T 0, 24, .inl fun _ => 0)), (q23, .inl (T 0, 24, .inl fun _ => 0)), (q31, .inl (T 0, 24, .inl fun _ => 0)), (q39, .inl (T 0, 24, .inl fun _ => 0)), (q47, .inl (T 0, 24, .inl fun _ => 0))]) := hD
  refine va_putF (D := D) (ci := 5) (v := .ref q47) (ty := .array .int) (C := RX5) (T := TX5) (N := 8) hx hb hts i5 tyX5 tyX5_ok nmX5 hown hK hP hD hS 0 rfl rfl 6 (by decide) w10 (fun _ h9 => h9) rfl hin rfl (by decide +kernel) rfl rfl (Nat.le_of_ble_eq_true rfl) dX5_init_49 (fun H locs hP hD hS => ?_)
  have hP : va_P D vwCl ((b, .inr (5, [.int 0, .ref q7, .ref q15, .ref q23, .ref q31, .ref q39, .ref q47, .null])) :: [(q7, .inl (T 0, 24, .inl fun _ => 0)), (q15, .inl (T 0, 24, .inl fun _ => 0)), (q23, .inl (T 0, 24, .inl fun _ => 0)), (q31, .inl (T 0, 24, .inl fun _ => 0)), (q39, .inl (T 0, 24, .inl fun _ => 0)), (q47, .inl (T 0, 24, .inl fun _ => 0))]) H := hP
  have hD : va_D A ((b, .inr (5, [.int 0, .ref q7, .ref q15, .ref q23, .ref q31, .ref q39, .ref q47, .null])) :: [(q7, .inl (T 0, 24, .inl fun _ => 0)), (q15, .inl (T 0, 24, .inl fun _ => 0)), (q23, .inl (T 0, 24, .inl fun _ => 0)), (q31, .inl (T 0, 24, .inl fun _ => 0)), (q39, .inl (T 0, 24, .inl fun _ => 0)), (q47, .inl (T 0, 24, .inl fun _ => 0))]) := hD
  refine lv_aload_n hx hb dX5_init_52 rfl (lv_at hl 0 rfl) ?_
  refine lv_bipush (v := 24) hx hb dX5_init_53 (by decide) ?_
  refine newI (N' := 24) hx hb w4 hK hP hD hS hA (by decide) (by decide) (by decide) (Nat.le_of_ble_eq_true rfl) (Nat.le_of_ble_eq_true rfl) dX5_init_55 (fun q55 H hP hD hS => ?_)
  have hP : va_P D vwCl ((b, .inr (5, [.int 0, .ref q7, .ref q15, .ref q23, .ref q31, .ref q39, .ref q47, .null])) :: [(q7, .inl (T 0, 24, .inl fun _ => 0)), (q15, .inl (T 0, 24, .inl fun _ => 0)), (q23, .inl (T 0, 24, .inl fun _ => 0)), (q31, .inl (T 0, 24, .inl fun _ => 0)), (q39, .inl (T 0, 24, .inl fun _ => 0)), (q47, .inl (T 0, 24, .inl fun _ => 0)), (q55, .inl (T 0, 24, .inl fun _ => 0))]) H := hP
  have hD : va_D A ((b, .inr (5, [.int 0, .ref q7, .ref q15, .ref q23, .ref q31, .ref q39, .ref q47, .null])) :: [(q7, .inl (T 0, 24, .inl fun _ => 0)), (q15, .inl (T 0, 24, .inl fun _ => 0)), (q23, .inl (T 0, 24, .inl fun _ => 0)), (q31, .inl (T 0, 24, .inl fun _ => 0)), (q39, .inl (T 0, 24, .inl fun _ => 0)), (q47, .inl (T 0, 24, .inl fun _ => 0)), (q55, .inl (T 0, 24, .inl fun _ => 0))]) := hD
  refine va_putF (D := D) (ci := 5) (v := .ref q55) (ty := .array .int) (C := RX5) (T := TX5) (N := 8) hx hb hts i5 tyX5 tyX5_ok nmX5 hown hK hP hD hS 0 rfl rfl 7 (by decide) w11 (fun _ h9 => h9) rfl hin rfl (by decide +kernel) rfl rfl (Nat.le_of_ble_eq_true rfl) dX5_init_57 (fun H locs hP hD hS => ?_)
  have hP : va_P D vwCl ((b, .inr (5, [.int 0, .ref q7, .ref q15, .ref q23, .ref q31, .ref q39, .ref q47, .ref q55])) :: [(q7, .inl (T 0, 24, .inl fun _ => 0)), (q15, .inl (T 0, 24, .inl fun _ => 0)), (q23, .inl (T 0, 24, .inl fun _ => 0)), (q31, .inl (T 0, 24, .inl fun _ => 0)), (q39, .inl (T 0, 24, .inl fun _ => 0)), (q47, .inl (T 0, 24, .inl fun _ => 0)), (q55, .inl (T 0, 24, .inl fun _ => 0))]) H := hP
  have hD : va_D A ((b, .inr (5, [.int 0, .ref q7, .ref q15, .ref q23, .ref q31, .ref q39, .ref q47, .ref q55])) :: [(q7, .inl (T 0, 24, .inl fun _ => 0)), (q15, .inl (T 0, 24, .inl fun _ => 0)), (q23, .inl (T 0, 24, .inl fun _ => 0)), (q31, .inl (T 0, 24, .inl fun _ => 0)), (q39, .inl (T 0, 24, .inl fun _ => 0)), (q47, .inl (T 0, 24, .inl fun _ => 0)), (q55, .inl (T 0, 24, .inl fun _ => 0))]) := hD
  exact hret (fun i => [b, q7, q15, q23, q31, q39, q47, q55].getD i 0) _ _ _ _ rfl dX5_init_60 hP hD hS

set_option maxHeartbeats 4000000 in
set_option maxRecDepth 100000 in
theorem c_X1_init (l : Launch) (D : va_G) (T : Nat → ClassId) (b : Nat) (sz : Nat) : Met l yX1_init wsX1_init ({ frames := 1, cells := 1, slots := 600, locals := 32 } : Room) (va_Pc [.ref b] (fun U => PS D T [(b, .inr (1, [.int 0, .int 0, .int 0, .int 0, .null]))] sz U ∧ NX U)) (va_Qv (fun u : (Nat → Nat) => u 0 = b) (fun u t => QS D T (va_A [(b, .inr (1, [.int 0, .int 0, .int 0, .int 0, .null]))] sz) (INP T u) t) (va_A [(b, .inr (1, [.int 0, .int 0, .int 0, .int 0, .null]))] sz)) 1 600 (va_A [(b, .inr (1, [.int 0, .int 0, .int 0, .int 0, .null]))] sz) := by
  refine metK (cc := cX1_init) (maxL := 1) (by decide) rfl (Nat.le_of_ble_eq_true rfl) rfl ?_
  intro p e s m args below meth c Q ls A hx hb hml hown hts hA9 hsz9 hNX hP hK hD hA hS hl hin hret
  have hown : s.vm.findClass RX1 = some m.cls := hown
  have hl : lv_has ls 1 [(0, .ref (b))] := hl
  have i1 : ∀ w ∈ wsX10, w ∈ wsX1_init := by decide +kernel
  have w1 := hts (Cond.methodLink RX1 3 objectInit) (List.mem_of_getElem? (i := 1) rfl)
  have w2 := hts (Cond.instanceMethod objectInit) (List.mem_of_getElem? (i := 2) rfl)
  have w4 := hts (Cond.arrayClass .int) (List.mem_of_getElem? (i := 4) rfl)
  have w5 := hts (Cond.fieldLink RX1 9 "MoonComplaintWindow$Input" "bytes" "[I") (List.mem_of_getElem? (i := 5) rfl)
  have hP : va_P D vwCl ([(b, .inr (1, [.int 0, .int 0, .int 0, .int 0, .null]))]) s.heap := hP
  refine lv_aload_n hx hb dX1_init_0 rfl (lv_at hl 0 rfl) ?_
  refine W.objInit hx hb hown w1 w2 (hts _ (List.mem_of_getElem? (i := 3) rfl)) rfl (by rw [hml]; exact hl.1) rfl dX1_init_1 (Nat.le_of_ble_eq_true rfl) (Nat.le_of_ble_eq_true rfl) ?_
  refine W.eq (g2 := F0 m 4 ls []) rfl ?_
  refine lv_aload_n hx hb dX1_init_4 rfl (lv_at hl 0 rfl) ?_
  refine lv_sipush (v := 600) hx hb dX1_init_5 (by decide) ?_
  refine newI (N' := 600) hx hb w4 hK hP hD hS hA (by decide) (by decide) (by decide) (Nat.le_of_ble_eq_true rfl) (Nat.le_of_ble_eq_true rfl) dX1_init_8 (fun q8 H hP hD hS => ?_)
  have hP : va_P D vwCl ((b, .inr (1, [.int 0, .int 0, .int 0, .int 0, .null])) :: [(q8, .inl (T 0, 600, .inl fun _ => 0))]) H := hP
  have hD : va_D A ((b, .inr (1, [.int 0, .int 0, .int 0, .int 0, .null])) :: [(q8, .inl (T 0, 600, .inl fun _ => 0))]) := hD
  refine va_putF (D := D) (ci := 1) (v := .ref q8) (ty := .array .int) (C := RX1) (T := TX1) (N := 5) hx hb hts i1 tyX1 tyX1_ok nmX1 hown hK hP hD hS 0 rfl rfl 4 (by decide) w5 (fun _ h9 => h9) rfl hin rfl (by decide +kernel) rfl rfl (Nat.le_of_ble_eq_true rfl) dX1_init_10 (fun H locs hP hD hS => ?_)
  have hP : va_P D vwCl ((b, .inr (1, [.int 0, .int 0, .int 0, .int 0, .ref q8])) :: [(q8, .inl (T 0, 600, .inl fun _ => 0))]) H := hP
  have hD : va_D A ((b, .inr (1, [.int 0, .int 0, .int 0, .int 0, .ref q8])) :: [(q8, .inl (T 0, 600, .inl fun _ => 0))]) := hD
  exact hret (fun i => [b, q8].getD i 0) _ _ _ _ rfl dX1_init_13 hP hD hS

set_option maxHeartbeats 4000000 in
set_option maxRecDepth 100000 in
theorem c_X4_init (l : Launch) (D : va_G) (T : Nat → ClassId) (b : Nat) (sz : Nat) : Met l yX4_init wsX4_init ({ frames := 1, cells := 1, slots := 120, locals := 32 } : Room) (va_Pc [.ref b] (fun U => PS D T [(b, .inr (4, [.int 0, .null]))] sz U ∧ NX U)) (va_Qv (fun u : (Nat → Nat) => u 0 = b) (fun u t => QS D T (va_A [(b, .inr (4, [.int 0, .null]))] sz) (PAG T u) t) (va_A [(b, .inr (4, [.int 0, .null]))] sz)) 1 120 (va_A [(b, .inr (4, [.int 0, .null]))] sz) := by
  refine metK (cc := cX4_init) (maxL := 1) (by decide) rfl (Nat.le_of_ble_eq_true rfl) rfl ?_
  intro p e s m args below meth c Q ls A hx hb hml hown hts hA9 hsz9 hNX hP hK hD hA hS hl hin hret
  have hown : s.vm.findClass RX4 = some m.cls := hown
  have hl : lv_has ls 1 [(0, .ref (b))] := hl
  have i4 : ∀ w ∈ wsX40, w ∈ wsX4_init := by decide +kernel
  have w1 := hts (Cond.methodLink RX4 3 objectInit) (List.mem_of_getElem? (i := 1) rfl)
  have w2 := hts (Cond.instanceMethod objectInit) (List.mem_of_getElem? (i := 2) rfl)
  have w4 := hts (Cond.arrayClass .int) (List.mem_of_getElem? (i := 4) rfl)
  have w5 := hts (Cond.fieldLink RX4 11 "MoonComplaintWindow$Page" "bytes" "[I") (List.mem_of_getElem? (i := 5) rfl)
  have hP : va_P D vwCl ([(b, .inr (4, [.int 0, .null]))]) s.heap := hP
  refine lv_aload_n hx hb dX4_init_0 rfl (lv_at hl 0 rfl) ?_
  refine W.objInit hx hb hown w1 w2 (hts _ (List.mem_of_getElem? (i := 3) rfl)) rfl (by rw [hml]; exact hl.1) rfl dX4_init_1 (Nat.le_of_ble_eq_true rfl) (Nat.le_of_ble_eq_true rfl) ?_
  refine W.eq (g2 := F0 m 4 ls []) rfl ?_
  refine lv_aload_n hx hb dX4_init_4 rfl (lv_at hl 0 rfl) ?_
  refine lv_bipush (v := 120) hx hb dX4_init_5 (by decide) ?_
  refine newI (N' := 120) hx hb w4 hK hP hD hS hA (by decide) (by decide) (by decide) (Nat.le_of_ble_eq_true rfl) (Nat.le_of_ble_eq_true rfl) dX4_init_7 (fun q7 H hP hD hS => ?_)
  have hP : va_P D vwCl ((b, .inr (4, [.int 0, .null])) :: [(q7, .inl (T 0, 120, .inl fun _ => 0))]) H := hP
  have hD : va_D A ((b, .inr (4, [.int 0, .null])) :: [(q7, .inl (T 0, 120, .inl fun _ => 0))]) := hD
  refine va_putF (D := D) (ci := 4) (v := .ref q7) (ty := .array .int) (C := RX4) (T := TX4) (N := 2) hx hb hts i4 tyX4 tyX4_ok nmX4 hown hK hP hD hS 0 rfl rfl 1 (by decide) w5 (fun _ h9 => h9) rfl hin rfl (by decide +kernel) rfl rfl (Nat.le_of_ble_eq_true rfl) dX4_init_9 (fun H locs hP hD hS => ?_)
  have hP : va_P D vwCl ((b, .inr (4, [.int 0, .ref q7])) :: [(q7, .inl (T 0, 120, .inl fun _ => 0))]) H := hP
  have hD : va_D A ((b, .inr (4, [.int 0, .ref q7])) :: [(q7, .inl (T 0, 120, .inl fun _ => 0))]) := hD
  exact hret (fun i => [b, q7].getD i 0) _ _ _ _ rfl dX4_init_12 hP hD hS

set_option maxHeartbeats 4000000 in
set_option maxRecDepth 100000 in
theorem c_X3_init (l : Launch) (D : va_G) (T : Nat → ClassId) (b : Nat) (sz : Nat) : Met l yX3_init wsX3_init ({ frames := 2, cells := 13, slots := 205, locals := 52 } : Room) (va_Pc [.ref b] (fun U => PS D T [(b, .inr (3, [.int 0, .null, .null, .null]))] sz U ∧ NX U)) (va_Qv (fun u : (Nat → Nat) => u 0 = b) (fun u t => QS D T (va_A [(b, .inr (3, [.int 0, .null, .null, .null]))] sz) (OFF T u zO) t) (va_A [(b, .inr (3, [.int 0, .null, .null, .null]))] sz)) 13 205 (va_A [(b, .inr (3, [.int 0, .null, .null, .null]))] sz) := by
  refine metK (cc := cX3_init) (maxL := 1) (by decide) rfl (Nat.le_of_ble_eq_true rfl) rfl ?_
  intro p e s m args below meth c Q ls A hx hb hml hown hts hA9 hsz9 hNX hP hK hD hA hS hl hin hret
  have hown : s.vm.findClass RX3 = some m.cls := hown
  have hl : lv_has ls 1 [(0, .ref (b))] := hl
  have i3 : ∀ w ∈ wsX30, w ∈ wsX3_init := by decide +kernel
  have i5 : ∀ w ∈ wsX50, w ∈ wsX3_init := by decide +kernel
  have i6 : ∀ w ∈ wsX60, w ∈ wsX3_init := by decide +kernel
  have i8 : ∀ w ∈ wsX80, w ∈ wsX3_init := by decide +kernel
  have w1 := hts (Cond.methodLink RX3 3 objectInit) (List.mem_of_getElem? (i := 1) rfl)
  have w2 := hts (Cond.instanceMethod objectInit) (List.mem_of_getElem? (i := 2) rfl)
  have w4 := hts (Cond.classLink RX3 9 RX6) (List.mem_of_getElem? (i := 4) rfl)
  have w5 := hts (Cond.instantiable RX6 5) (List.mem_of_getElem? (i := 5) rfl)
  have w6 := hts (Cond.initialized RX6) (List.mem_of_getElem? (i := 6) rfl)
  have w7 := hts (Cond.fieldLink RX3 12 "MoonComplaintWindow$Office" "sky" "LMoonComplaintWindow$Sky;") (List.mem_of_getElem? (i := 7) rfl)
  have w8 := hts (Cond.classLink RX3 18 RX8) (List.mem_of_getElem? (i := 8) rfl)
  have w9 := hts (Cond.instantiable RX8 4) (List.mem_of_getElem? (i := 9) rfl)
  have w10 := hts (Cond.initialized RX8) (List.mem_of_getElem? (i := 10) rfl)
  have w11 := hts (Cond.fieldLink RX3 21 "MoonComplaintWindow$Office" "staff" "LMoonComplaintWindow$Staff;") (List.mem_of_getElem? (i := 11) rfl)
  have w12 := hts (Cond.classLink RX3 25 RX5) (List.mem_of_getElem? (i := 12) rfl)
  have w13 := hts (Cond.instantiable RX5 8) (List.mem_of_getElem? (i := 13) rfl)
  have w14 := hts (Cond.initialized RX5) (List.mem_of_getElem? (i := 14) rfl)
  have w15 := hts (Cond.fieldLink RX3 28 "MoonComplaintWindow$Office" "pile" "LMoonComplaintWindow$Pile;") (List.mem_of_getElem? (i := 15) rfl)
  have w16 := hts (Cond.instanceMethod yX6_init) (List.mem_of_getElem? (i := 16) rfl)
  have w21 := hts (Cond.instanceMethod yX8_init) (List.mem_of_getElem? (i := 21) rfl)
  have w26 := hts (Cond.instanceMethod yX5_init) (List.mem_of_getElem? (i := 26) rfl)
  have hP : va_P D vwCl ([(b, .inr (3, [.int 0, .null, .null, .null]))]) s.heap := hP
  refine lv_aload_n hx hb dX3_init_0 rfl (lv_at hl 0 rfl) ?_
  refine W.objInit hx hb hown w1 w2 (hts _ (List.mem_of_getElem? (i := 3) rfl)) rfl (by rw [hml]; exact hl.1) rfl dX3_init_1 (Nat.le_of_ble_eq_true rfl) (Nat.le_of_ble_eq_true rfl) ?_
  refine W.eq (g2 := F0 m 4 ls []) rfl ?_
  refine lv_aload_n hx hb dX3_init_4 rfl (lv_at hl 0 rfl) ?_
  refine va_new (ci := 6) (fs := [.int 0, .int 0, .int 0, .int 0, .null]) (C := RX6) (T := TX6) (N := 5) hx hb hts i6 tyX6 tyX6_ok hown w4 w5 w6 hK hP hD hS hA rfl (fun j hj => by rcases (show j = 0 ∨ j = 1 ∨ j = 2 ∨ j = 3 ∨ j = 4 by omega) with rfl | rfl | rfl | rfl | rfl <;> rfl) (Nat.le_of_ble_eq_true rfl) (Nat.le_of_ble_eq_true rfl) dX3_init_5 (fun q5 H hP hD hS => ?_)
  refine lv_dup hx hb dX3_init_8 rfl ?_
  refine wrKN (ws := (b, .inr (3, [.int 0, .null, .null, .null])) :: []) (rest := [.ref q5, .ref b]) ⟨hx, hb, hml, hown, hts⟩ (c_X6_init l D T q5 _) ⟨va_cnB (host := "MoonComplaintWindow") 0 hts gX3_init_X6_init_n11 rfl rfl rfl (hNX.1 (RX3, 11, yX6_init) (by decide +kernel)) w6 (by decide +kernel) ⟨Nat.le_of_ble_eq_true rfl, Nat.le_of_ble_eq_true rfl⟩, rfl, w16⟩ hNX hK hP hD hS hA hl.1 rfl (Nat.le_of_ble_eq_true rfl) ⟨Nat.le_of_ble_eq_true rfl, Nat.le_of_ble_eq_true rfl⟩ dX3_init_9 (fun u5 H locs hu hP5 hD5 hS5 => ?_)
  have hu : u5 0 = q5 := hu
  subst hu
  have hP := hP5
  have hD := hD5
  have hS := hS5
  have hP : va_P D vwCl ((b, .inr (3, [.int 0, .null, .null, .null])) :: ([] ++ SKY T u5)) H := hP
  have hD : va_D A ((b, .inr (3, [.int 0, .null, .null, .null])) :: ([] ++ SKY T u5)) := hD
  refine va_putF (D := D) (ci := 3) (v := .ref (u5 0)) (ty := .object "MoonComplaintWindow$Sky") (C := RX3) (T := TX3) (N := 4) hx hb hts i3 tyX3 tyX3_ok nmX3 hown hK hP hD hS 0 rfl rfl 1 (by decide) w7 (fun _ h9 => h9) rfl hin rfl (by decide +kernel) rfl rfl (Nat.le_of_ble_eq_true rfl) dX3_init_12 (fun H locs hP hD hS => ?_)
  have hP : va_P D vwCl ((b, .inr (3, [.int 0, .ref (u5 0), .null, .null])) :: ([] ++ SKY T u5)) H := hP
  have hD : va_D A ((b, .inr (3, [.int 0, .ref (u5 0), .null, .null])) :: ([] ++ SKY T u5)) := hD
  refine lv_aload_n hx hb dX3_init_15 rfl (lv_at hl 0 rfl) ?_
  refine va_new (ci := 8) (fs := [.int 0, .int 0, .null, .null]) (C := RX8) (T := TX8) (N := 4) hx hb hts i8 tyX8 tyX8_ok hown w8 w9 w10 hK hP hD hS hA rfl (fun j hj => by rcases (show j = 0 ∨ j = 1 ∨ j = 2 ∨ j = 3 by omega) with rfl | rfl | rfl | rfl <;> rfl) (Nat.le_of_ble_eq_true rfl) (Nat.le_of_ble_eq_true rfl) dX3_init_16 (fun q16 H hP hD hS => ?_)
  refine lv_dup hx hb dX3_init_19 rfl ?_
  refine wrKN (ws := (b, .inr (3, [.int 0, .ref (u5 0), .null, .null])) :: ([] ++ SKY T u5)) (rest := [.ref q16, .ref b]) ⟨hx, hb, hml, hown, hts⟩ (c_X8_init l D T q16 _) ⟨va_cnB (host := "MoonComplaintWindow") 0 hts gX3_init_X8_init_n20 rfl rfl rfl (hNX.1 (RX3, 20, yX8_init) (by decide +kernel)) w10 (by decide +kernel) ⟨Nat.le_of_ble_eq_true rfl, Nat.le_of_ble_eq_true rfl⟩, rfl, w21⟩ hNX hK hP hD hS hA hl.1 rfl (Nat.le_of_ble_eq_true rfl) ⟨Nat.le_of_ble_eq_true rfl, Nat.le_of_ble_eq_true rfl⟩ dX3_init_20 (fun u16 H locs hu hP5 hD5 hS5 => ?_)
  have hu : u16 0 = q16 := hu
  subst hu
  have hP := hP5
  have hD := hD5
  have hS := hS5
  have hP : va_P D vwCl ((b, .inr (3, [.int 0, .ref (u5 0), .null, .null])) :: (([] ++ SKY T u5) ++ STA T u16)) H := hP
  have hD : va_D A ((b, .inr (3, [.int 0, .ref (u5 0), .null, .null])) :: (([] ++ SKY T u5) ++ STA T u16)) := hD
  refine va_putF (D := D) (ci := 3) (v := .ref (u16 0)) (ty := .object "MoonComplaintWindow$Staff") (C := RX3) (T := TX3) (N := 4) hx hb hts i3 tyX3 tyX3_ok nmX3 hown hK hP hD hS 0 rfl rfl 2 (by decide) w11 (fun _ h9 => h9) rfl hin rfl (by decide +kernel) rfl rfl (Nat.le_of_ble_eq_true rfl) dX3_init_23 (fun H locs hP hD hS => ?_)
  have hP : va_P D vwCl ((b, .inr (3, [.int 0, .ref (u5 0), .ref (u16 0), .null])) :: (([] ++ SKY T u5) ++ STA T u16)) H := hP
  have hD : va_D A ((b, .inr (3, [.int 0, .ref (u5 0), .ref (u16 0), .null])) :: (([] ++ SKY T u5) ++ STA T u16)) := hD
  refine lv_aload_n hx hb dX3_init_26 rfl (lv_at hl 0 rfl) ?_
  refine va_new (ci := 5) (fs := [.int 0, .null, .null, .null, .null, .null, .null, .null]) (C := RX5) (T := TX5) (N := 8) hx hb hts i5 tyX5 tyX5_ok hown w12 w13 w14 hK hP hD hS hA rfl (fun j hj => by rcases (show j = 0 ∨ j = 1 ∨ j = 2 ∨ j = 3 ∨ j = 4 ∨ j = 5 ∨ j = 6 ∨ j = 7 by omega) with rfl | rfl | rfl | rfl | rfl | rfl | rfl | rfl <;> rfl) (Nat.le_of_ble_eq_true rfl) (Nat.le_of_ble_eq_true rfl) dX3_init_27 (fun q27 H hP hD hS => ?_)
  refine lv_dup hx hb dX3_init_30 rfl ?_
  refine wrKN (ws := (b, .inr (3, [.int 0, .ref (u5 0), .ref (u16 0), .null])) :: (([] ++ SKY T u5) ++ STA T u16)) (rest := [.ref q27, .ref b]) ⟨hx, hb, hml, hown, hts⟩ (c_X5_init l D T q27 _) ⟨va_cnB (host := "MoonComplaintWindow") 0 hts gX3_init_X5_init_n27 rfl rfl rfl (hNX.1 (RX3, 27, yX5_init) (by decide +kernel)) w14 (by decide +kernel) ⟨Nat.le_of_ble_eq_true rfl, Nat.le_of_ble_eq_true rfl⟩, rfl, w26⟩ hNX hK hP hD hS hA hl.1 rfl (Nat.le_of_ble_eq_true rfl) ⟨Nat.le_of_ble_eq_true rfl, Nat.le_of_ble_eq_true rfl⟩ dX3_init_31 (fun u27 H locs hu hP5 hD5 hS5 => ?_)
  have hu : u27 0 = q27 := hu
  subst hu
  have hP := hP5
  have hD := hD5
  have hS := hS5
  have hP : va_P D vwCl ((b, .inr (3, [.int 0, .ref (u5 0), .ref (u16 0), .null])) :: ((([] ++ SKY T u5) ++ STA T u16) ++ PIL T u27)) H := hP
  have hD : va_D A ((b, .inr (3, [.int 0, .ref (u5 0), .ref (u16 0), .null])) :: ((([] ++ SKY T u5) ++ STA T u16) ++ PIL T u27)) := hD
  refine va_putF (D := D) (ci := 3) (v := .ref (u27 0)) (ty := .object "MoonComplaintWindow$Pile") (C := RX3) (T := TX3) (N := 4) hx hb hts i3 tyX3 tyX3_ok nmX3 hown hK hP hD hS 0 rfl rfl 3 (by decide) w15 (fun _ h9 => h9) rfl hin rfl (by decide +kernel) rfl rfl (Nat.le_of_ble_eq_true rfl) dX3_init_34 (fun H locs hP hD hS => ?_)
  have hP : va_P D vwCl ((b, .inr (3, [.int 0, .ref (u5 0), .ref (u16 0), .ref (u27 0)])) :: ((([] ++ SKY T u5) ++ STA T u16) ++ PIL T u27)) H := hP
  have hD : va_D A ((b, .inr (3, [.int 0, .ref (u5 0), .ref (u16 0), .ref (u27 0)])) :: ((([] ++ SKY T u5) ++ STA T u16) ++ PIL T u27)) := hD
  exact hret (fun i => [b, u5 0, u5 1, u16 0, u16 1, u16 2, u27 0, u27 1, u27 2, u27 3, u27 4, u27 5, u27 6, u27 7].getD i 0) _ _ _ _ rfl dX3_init_37 hP hD hS

set_option maxHeartbeats 4000000 in
set_option maxRecDepth 100000 in
theorem c_X2_init (l : Launch) (D : va_G) (T : Nat → ClassId) (b : Nat) (sz : Nat) : Met l yX2_init wsX2_init ({ frames := 3, cells := 16, slots := 814, locals := 72 } : Room) (va_Pc [.ref b] (fun U => PS D T [(b, .inr (2, [.int 0, .int 0, .null, .null]))] sz U ∧ NX U)) (va_Qv (fun u : (Nat → Nat) => u 0 = b) (fun u t => QS D T (va_A [(b, .inr (2, [.int 0, .int 0, .null, .null]))] sz) (LOA T u) t) (va_A [(b, .inr (2, [.int 0, .int 0, .null, .null]))] sz)) 16 814 (va_A [(b, .inr (2, [.int 0, .int 0, .null, .null]))] sz) := by
  refine metK (cc := cX2_init) (maxL := 1) (by decide) rfl (Nat.le_of_ble_eq_true rfl) rfl ?_
  intro p e s m args below meth c Q ls A hx hb hml hown hts hA9 hsz9 hNX hP hK hD hA hS hl hin hret
  have hown : s.vm.findClass RX2 = some m.cls := hown
  have hl : lv_has ls 1 [(0, .ref (b))] := hl
  have i1 : ∀ w ∈ wsX10, w ∈ wsX2_init := by decide +kernel
  have i2 : ∀ w ∈ wsX20, w ∈ wsX2_init := by decide +kernel
  have i3 : ∀ w ∈ wsX30, w ∈ wsX2_init := by decide +kernel
  have w1 := hts (Cond.methodLink RX2 3 objectInit) (List.mem_of_getElem? (i := 1) rfl)
  have w2 := hts (Cond.instanceMethod objectInit) (List.mem_of_getElem? (i := 2) rfl)
  have w4 := hts (Cond.classLink RX2 9 RX1) (List.mem_of_getElem? (i := 4) rfl)
  have w5 := hts (Cond.instantiable RX1 5) (List.mem_of_getElem? (i := 5) rfl)
  have w6 := hts (Cond.initialized RX1) (List.mem_of_getElem? (i := 6) rfl)
  have w7 := hts (Cond.fieldLink RX2 12 "MoonComplaintWindow$Loader" "input" "LMoonComplaintWindow$Input;") (List.mem_of_getElem? (i := 7) rfl)
  have w8 := hts (Cond.classLink RX2 18 RX3) (List.mem_of_getElem? (i := 8) rfl)
  have w9 := hts (Cond.instantiable RX3 4) (List.mem_of_getElem? (i := 9) rfl)
  have w10 := hts (Cond.initialized RX3) (List.mem_of_getElem? (i := 10) rfl)
  have w11 := hts (Cond.fieldLink RX2 21 "MoonComplaintWindow$Loader" "draft" "LMoonComplaintWindow$Office;") (List.mem_of_getElem? (i := 11) rfl)
  have w12 := hts (Cond.instanceMethod yX1_init) (List.mem_of_getElem? (i := 12) rfl)
  have w17 := hts (Cond.instanceMethod yX3_init) (List.mem_of_getElem? (i := 17) rfl)
  have hP : va_P D vwCl ([(b, .inr (2, [.int 0, .int 0, .null, .null]))]) s.heap := hP
  refine lv_aload_n hx hb dX2_init_0 rfl (lv_at hl 0 rfl) ?_
  refine W.objInit hx hb hown w1 w2 (hts _ (List.mem_of_getElem? (i := 3) rfl)) rfl (by rw [hml]; exact hl.1) rfl dX2_init_1 (Nat.le_of_ble_eq_true rfl) (Nat.le_of_ble_eq_true rfl) ?_
  refine W.eq (g2 := F0 m 4 ls []) rfl ?_
  refine lv_aload_n hx hb dX2_init_4 rfl (lv_at hl 0 rfl) ?_
  refine va_new (ci := 1) (fs := [.int 0, .int 0, .int 0, .int 0, .null]) (C := RX1) (T := TX1) (N := 5) hx hb hts i1 tyX1 tyX1_ok hown w4 w5 w6 hK hP hD hS hA rfl (fun j hj => by rcases (show j = 0 ∨ j = 1 ∨ j = 2 ∨ j = 3 ∨ j = 4 by omega) with rfl | rfl | rfl | rfl | rfl <;> rfl) (Nat.le_of_ble_eq_true rfl) (Nat.le_of_ble_eq_true rfl) dX2_init_5 (fun q5 H hP hD hS => ?_)
  refine lv_dup hx hb dX2_init_8 rfl ?_
  refine wrKN (ws := (b, .inr (2, [.int 0, .int 0, .null, .null])) :: []) (rest := [.ref q5, .ref b]) ⟨hx, hb, hml, hown, hts⟩ (c_X1_init l D T q5 _) ⟨va_cnB (host := "MoonComplaintWindow") 0 hts gX2_init_X1_init_n11 rfl rfl rfl (hNX.1 (RX2, 11, yX1_init) (by decide +kernel)) w6 (by decide +kernel) ⟨Nat.le_of_ble_eq_true rfl, Nat.le_of_ble_eq_true rfl⟩, rfl, w12⟩ hNX hK hP hD hS hA hl.1 rfl (Nat.le_of_ble_eq_true rfl) ⟨Nat.le_of_ble_eq_true rfl, Nat.le_of_ble_eq_true rfl⟩ dX2_init_9 (fun u5 H locs hu hP5 hD5 hS5 => ?_)
  have hu : u5 0 = q5 := hu
  subst hu
  have hP := hP5
  have hD := hD5
  have hS := hS5
  have hP : va_P D vwCl ((b, .inr (2, [.int 0, .int 0, .null, .null])) :: ([] ++ INP T u5)) H := hP
  have hD : va_D A ((b, .inr (2, [.int 0, .int 0, .null, .null])) :: ([] ++ INP T u5)) := hD
  refine va_putF (D := D) (ci := 2) (v := .ref (u5 0)) (ty := .object "MoonComplaintWindow$Input") (C := RX2) (T := TX2) (N := 4) hx hb hts i2 tyX2 tyX2_ok nmX2 hown hK hP hD hS 0 rfl rfl 2 (by decide) w7 (fun _ h9 => h9) rfl hin rfl (by decide +kernel) rfl rfl (Nat.le_of_ble_eq_true rfl) dX2_init_12 (fun H locs hP hD hS => ?_)
  have hP : va_P D vwCl ((b, .inr (2, [.int 0, .int 0, .ref (u5 0), .null])) :: ([] ++ INP T u5)) H := hP
  have hD : va_D A ((b, .inr (2, [.int 0, .int 0, .ref (u5 0), .null])) :: ([] ++ INP T u5)) := hD
  refine lv_aload_n hx hb dX2_init_15 rfl (lv_at hl 0 rfl) ?_
  refine va_new (ci := 3) (fs := [.int 0, .null, .null, .null]) (C := RX3) (T := TX3) (N := 4) hx hb hts i3 tyX3 tyX3_ok hown w8 w9 w10 hK hP hD hS hA rfl (fun j hj => by rcases (show j = 0 ∨ j = 1 ∨ j = 2 ∨ j = 3 by omega) with rfl | rfl | rfl | rfl <;> rfl) (Nat.le_of_ble_eq_true rfl) (Nat.le_of_ble_eq_true rfl) dX2_init_16 (fun q16 H hP hD hS => ?_)
  refine lv_dup hx hb dX2_init_19 rfl ?_
  refine wrKN (ws := (b, .inr (2, [.int 0, .int 0, .ref (u5 0), .null])) :: ([] ++ INP T u5)) (rest := [.ref q16, .ref b]) ⟨hx, hb, hml, hown, hts⟩ (c_X3_init l D T q16 _) ⟨va_cnB (host := "MoonComplaintWindow") 0 hts gX2_init_X3_init_n20 rfl rfl rfl (hNX.1 (RX2, 20, yX3_init) (by decide +kernel)) w10 (by decide +kernel) ⟨Nat.le_of_ble_eq_true rfl, Nat.le_of_ble_eq_true rfl⟩, rfl, w17⟩ hNX hK hP hD hS hA hl.1 rfl (Nat.le_of_ble_eq_true rfl) ⟨Nat.le_of_ble_eq_true rfl, Nat.le_of_ble_eq_true rfl⟩ dX2_init_20 (fun u16 H locs hu hP5 hD5 hS5 => ?_)
  have hu : u16 0 = q16 := hu
  subst hu
  have hP := hP5
  have hD := hD5
  have hS := hS5
  have hP : va_P D vwCl ((b, .inr (2, [.int 0, .int 0, .ref (u5 0), .null])) :: (([] ++ INP T u5) ++ OFF T u16 zO)) H := hP
  have hD : va_D A ((b, .inr (2, [.int 0, .int 0, .ref (u5 0), .null])) :: (([] ++ INP T u5) ++ OFF T u16 zO)) := hD
  refine va_putF (D := D) (ci := 2) (v := .ref (u16 0)) (ty := .object "MoonComplaintWindow$Office") (C := RX2) (T := TX2) (N := 4) hx hb hts i2 tyX2 tyX2_ok nmX2 hown hK hP hD hS 0 rfl rfl 3 (by decide) w11 (fun _ h9 => h9) rfl hin rfl (by decide +kernel) rfl rfl (Nat.le_of_ble_eq_true rfl) dX2_init_23 (fun H locs hP hD hS => ?_)
  have hP : va_P D vwCl ((b, .inr (2, [.int 0, .int 0, .ref (u5 0), .ref (u16 0)])) :: (([] ++ INP T u5) ++ OFF T u16 zO)) H := hP
  have hD : va_D A ((b, .inr (2, [.int 0, .int 0, .ref (u5 0), .ref (u16 0)])) :: (([] ++ INP T u5) ++ OFF T u16 zO)) := hD
  exact hret (fun i => [b, u5 0, u5 1, u16 0, u16 1, u16 2, u16 3, u16 4, u16 5, u16 6, u16 7, u16 8, u16 9, u16 10, u16 11, u16 12, u16 13].getD i 0) _ _ _ _ rfl dX2_init_26 hP hD hS
