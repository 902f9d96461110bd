set_option maxHeartbeats 4000000 in
set_option maxRecDepth 100000 in
theorem c_X10_init (l : Launch) (D : va_G) (T : Nat → ClassId) (b : Nat) (sz : Nat) : Met l yX10_init wsX10_init ({ frames := 2, cells := 8, slots := 3428, locals := 45 } : Room) (va_Pc [.ref b] (fun U => PS D T [(b, .inr (10, [.null, .null, .null, .null, .null, .null, .int 0, .null, .int 0, .int 0, .int 0, .int 0, .int 0, .int 0, .int 0, .long 0, .int 0, .null, .int 0]))] sz U ∧ NX U)) (va_Qv (fun u : (Nat → Nat) => u 0 = b) (fun u t => QS D T (va_A [(b, .inr (10, [.null, .null, .null, .null, .null, .null, .int 0, .null, .int 0, .int 0, .int 0, .int 0, .int 0, .int 0, .int 0, .long 0, .int 0, .null, .int 0]))] sz) (REF T u yI0 0) t) (va_A [(b, .inr (10, [.null, .null, .null, .null, .null, .null, .int 0, .null, .int 0, .int 0, .int 0, .int 0, .int 0, .int 0, .int 0, .long 0, .int 0, .null, .int 0]))] sz)) 8 3428 (va_A [(b, .inr (10, [.null, .null, .null, .null, .null, .null, .int 0, .null, .int 0, .int 0, .int 0, .int 0, .int 0, .int 0, .int 0, .long 0, .int 0, .null, .int 0]))] sz) := by
  refine metK (cc := cX10_init) (maxL := 1) (by decide) rfl (Nat.le_of_ble_eq_true rfl) rfl ?_
  intro p e s m args below meth c Q ls A hx hb hml hown hts hA9 hsz9 hNX hP hK hD hA hS hl hin hret
  have hown : s.vm.findClass RX10 = some m.cls := hown
  have hl : lv_has ls 1 [(0, .ref (b))] := hl
  have i10 : ∀ w ∈ wsX100, w ∈ wsX10_init := by decide +kernel
  have w1 := hts (Cond.methodLink RX10 1 objectInit) (List.mem_of_getElem? (i := 1) rfl)
  have w2 := hts (Cond.instanceMethod objectInit) (List.mem_of_getElem? (i := 2) rfl)
  have w4 := hts (Cond.arrayClass .int) (List.mem_of_getElem? (i := 4) rfl)
  have w5 := hts (Cond.fieldLink RX10 7 "MoonComplaintWindowModel" "now" "[I") (List.mem_of_getElem? (i := 5) rfl)
  have w6 := hts (Cond.fieldLink RX10 13 "MoonComplaintWindowModel" "draft" "[I") (List.mem_of_getElem? (i := 6) rfl)
  have w7 := hts (Cond.fieldLink RX10 16 "MoonComplaintWindowModel" "spare" "[I") (List.mem_of_getElem? (i := 7) rfl)
  have w8 := hts (Cond.fieldLink RX10 19 "MoonComplaintWindowModel" "earlier" "[I") (List.mem_of_getElem? (i := 8) rfl)
  have w9 := hts (Cond.fieldLink RX10 22 "MoonComplaintWindowModel" "slots" "[I") (List.mem_of_getElem? (i := 9) rfl)
  have w10 := hts (Cond.arrayClass .boolean) (List.mem_of_getElem? (i := 10) rfl)
  have w11 := hts (Cond.fieldLink RX10 25 "MoonComplaintWindowModel" "isKept" "[Z") (List.mem_of_getElem? (i := 11) rfl)
  have w12 := hts (Cond.fieldLink RX10 29 "MoonComplaintWindowModel" "buffer" "[I") (List.mem_of_getElem? (i := 12) rfl)
  have w13 := hts (Cond.fieldLink RX10 32 "MoonComplaintWindowModel" "error" "I") (List.mem_of_getElem? (i := 13) rfl)
  have w14 := hts (Cond.fieldLink RX10 36 "MoonComplaintWindowModel" "out" "[I") (List.mem_of_getElem? (i := 14) rfl)
  have hP : va_P D vwCl ([(b, .inr (10, [.null, .null, .null, .null, .null, .null, .int 0, .null, .int 0, .int 0, .int 0, .int 0, .int 0, .int 0, .int 0, .long 0, .int 0, .null, .int 0]))]) s.heap := hP
  refine lv_aload_n hx hb dX10_init_0 rfl (lv_at hl 0 rfl) ?_
  refine W.objInit hx hb hown w1 w2 (hts _ (List.mem_of_getElem? (i := 3) rfl)) rfl (by rw [hml]; exact hl.1) rfl dX10_init_1 (Nat.le_of_ble_eq_true rfl) (Nat.le_of_ble_eq_true rfl) ?_
  refine W.eq (g2 := F0 m 4 ls []) rfl ?_
  refine lv_aload_n hx hb dX10_init_4 rfl (lv_at hl 0 rfl) ?_
  refine lv_sipush (v := 202) hx hb dX10_init_5 (by decide) ?_
  refine newI (N' := 202) hx hb w4 hK hP hD hS hA (by decide) (by decide) (by decide) (Nat.le_of_ble_eq_true rfl) (Nat.le_of_ble_eq_true rfl) dX10_init_8 (fun q8 H hP hD hS => ?_)
  have hP : va_P D vwCl ((b, .inr (10, [.null, .null, .null, .null, .null, .null, .int 0, .null, .int 0, .int 0, .int 0, .int 0, .int 0, .int 0, .int 0, .long 0, .int 0, .null, .int 0])) :: [(q8, .inl (T 0, 202, .inl fun _ => 0))]) H := hP
  have hD : va_D A ((b, .inr (10, [.null, .null, .null, .null, .null, .null, .int 0, .null, .int 0, .int 0, .int 0, .int 0, .int 0, .int 0, .int 0, .long 0, .int 0, .null, .int 0])) :: [(q8, .inl (T 0, 202, .inl fun _ => 0))]) := hD
  refine va_putF (D := D) (ci := 10) (v := .ref q8) (ty := .array .int) (C := RX10) (T := TX10) (N := 19) hx hb hts i10 tyX10 tyX10_ok nmX10 hown hK hP hD hS 0 rfl rfl 0 (by decide) w5 (fun _ h9 => h9) rfl hin rfl (by decide +kernel) rfl rfl (Nat.le_of_ble_eq_true rfl) dX10_init_10 (fun H locs hP hD hS => ?_)
  have hP : va_P D vwCl ((b, .inr (10, [.ref q8, .null, .null, .null, .null, .null, .int 0, .null, .int 0, .int 0, .int 0, .int 0, .int 0, .int 0, .int 0, .long 0, .int 0, .null, .int 0])) :: [(q8, .inl (T 0, 202, .inl fun _ => 0))]) H := hP
  have hD : va_D A ((b, .inr (10, [.ref q8, .null, .null, .null, .null, .null, .int 0, .null, .int 0, .int 0, .int 0, .int 0, .int 0, .int 0, .int 0, .long 0, .int 0, .null, .int 0])) :: [(q8, .inl (T 0, 202, .inl fun _ => 0))]) := hD
  refine lv_aload_n hx hb dX10_init_13 rfl (lv_at hl 0 rfl) ?_
  refine lv_sipush (v := 202) hx hb dX10_init_14 (by decide) ?_
  refine newI (N' := 202) hx hb w4 hK hP hD hS hA (by decide) (by decide) (by decide) (Nat.le_of_ble_eq_true rfl) (Nat.le_of_ble_eq_true rfl) dX10_init_17 (fun q17 H hP hD hS => ?_)
  have hP : va_P D vwCl ((b, .inr (10, [.ref q8, .null, .null, .null, .null, .null, .int 0, .null, .int 0, .int 0, .int 0, .int 0, .int 0, .int 0, .int 0, .long 0, .int 0, .null, .int 0])) :: [(q8, .inl (T 0, 202, .inl fun _ => 0)), (q17, .inl (T 0, 202, .inl fun _ => 0))]) H := hP
  have hD : va_D A ((b, .inr (10, [.ref q8, .null, .null, .null, .null, .null, .int 0, .null, .int 0, .int 0, .int 0, .int 0, .int 0, .int 0, .int 0, .long 0, .int 0, .null, .int 0])) :: [(q8, .inl (T 0, 202, .inl fun _ => 0)), (q17, .inl (T 0, 202, .inl fun _ => 0))]) := hD
  refine va_putF (D := D) (ci := 10) (v := .ref q17) (ty := .array .int) (C := RX10) (T := TX10) (N := 19) hx hb hts i10 tyX10 tyX10_ok nmX10 hown hK hP hD hS 0 rfl rfl 1 (by decide) w6 (fun _ h9 => h9) rfl hin rfl (by decide +kernel) rfl rfl (Nat.le_of_ble_eq_true rfl) dX10_init_19 (fun H locs hP hD hS => ?_)
  have hP : va_P D vwCl ((b, .inr (10, [.ref q8, .ref q17, .null, .null, .null, .null, .int 0, .null, .int 0, .int 0, .int 0, .int 0, .int 0, .int 0, .int 0, .long 0, .int 0, .null, .int 0])) :: [(q8, .inl (T 0, 202, .inl fun _ => 0)), (q17, .inl (T 0, 202, .inl fun _ => 0))]) H := hP
  have hD : va_D A ((b, .inr (10, [.ref q8, .ref q17, .null, .null, .null, .null, .int 0, .null, .int 0, .int 0, .int 0, .int 0, .int 0, .int 0, .int 0, .long 0, .int 0, .null, .int 0])) :: [(q8, .inl (T 0, 202, .inl fun _ => 0)), (q17, .inl (T 0, 202, .inl fun _ => 0))]) := hD
  refine lv_aload_n hx hb dX10_init_22 rfl (lv_at hl 0 rfl) ?_
  refine lv_sipush (v := 202) hx hb dX10_init_23 (by decide) ?_
  refine newI (N' := 202) hx hb w4 hK hP hD hS hA (by decide) (by decide) (by decide) (Nat.le_of_ble_eq_true rfl) (Nat.le_of_ble_eq_true rfl) dX10_init_26 (fun q26 H hP hD hS => ?_)
  have hP : va_P D vwCl ((b, .inr (10, [.ref q8, .ref q17, .null, .null, .null, .null, .int 0, .null, .int 0, .int 0, .int 0, .int 0, .int 0, .int 0, .int 0, .long 0, .int 0, .null, .int 0])) :: [(q8, .inl (T 0, 202, .inl fun _ => 0)), (q17, .inl (T 0, 202, .inl fun _ => 0)), (q26, .inl (T 0, 202, .inl fun _ => 0))]) H := hP
  have hD : va_D A ((b, .inr (10, [.ref q8, .ref q17, .null, .null, .null, .null, .int 0, .null, .int 0, .int 0, .int 0, .int 0, .int 0, .int 0, .int 0, .long 0, .int 0, .null, .int 0])) :: [(q8, .inl (T 0, 202, .inl fun _ => 0)), (q17, .inl (T 0, 202, .inl fun _ => 0)), (q26, .inl (T 0, 202, .inl fun _ => 0))]) := hD
  refine va_putF (D := D) (ci := 10) (v := .ref q26) (ty := .array .int) (C := RX10) (T := TX10) (N := 19) hx hb hts i10 tyX10 tyX10_ok nmX10 hown hK hP hD hS 0 rfl rfl 2 (by decide) w7 (fun _ h9 => h9) rfl hin rfl (by decide +kernel) rfl rfl (Nat.le_of_ble_eq_true rfl) dX10_init_28 (fun H locs hP hD hS => ?_)
  have hP : va_P D vwCl ((b, .inr (10, [.ref q8, .ref q17, .ref q26, .null, .null, .null, .int 0, .null, .int 0, .int 0, .int 0, .int 0, .int 0, .int 0, .int 0, .long 0, .int 0, .null, .int 0])) :: [(q8, .inl (T 0, 202, .inl fun _ => 0)), (q17, .inl (T 0, 202, .inl fun _ => 0)), (q26, .inl (T 0, 202, .inl fun _ => 0))]) H := hP
  have hD : va_D A ((b, .inr (10, [.ref q8, .ref q17, .ref q26, .null, .null, .null, .int 0, .null, .int 0, .int 0, .int 0, .int 0, .int 0, .int 0, .int 0, .long 0, .int 0, .null, .int 0])) :: [(q8, .inl (T 0, 202, .inl fun _ => 0)), (q17, .inl (T 0, 202, .inl fun _ => 0)), (q26, .inl (T 0, 202, .inl fun _ => 0))]) := hD
  refine lv_aload_n hx hb dX10_init_31 rfl (lv_at hl 0 rfl) ?_
  refine lv_sipush (v := 1616) hx hb dX10_init_32 (by decide) ?_
  refine newI (N' := 1616) hx hb w4 hK hP hD hS hA (by decide) (by decide) (by decide) (Nat.le_of_ble_eq_true rfl) (Nat.le_of_ble_eq_true rfl) dX10_init_35 (fun q35 H hP hD hS => ?_)
  have hP : va_P D vwCl ((b, .inr (10, [.ref q8, .ref q17, .ref q26, .null, .null, .null, .int 0, .null, .int 0, .int 0, .int 0, .int 0, .int 0, .int 0, .int 0, .long 0, .int 0, .null, .int 0])) :: [(q8, .inl (T 0, 202, .inl fun _ => 0)), (q17, .inl (T 0, 202, .inl fun _ => 0)), (q26, .inl (T 0, 202, .inl fun _ => 0)), (q35, .inl (T 0, 1616, .inl fun _ => 0))]) H := hP
  have hD : va_D A ((b, .inr (10, [.ref q8, .ref q17, .ref q26, .null, .null, .null, .int 0, .null, .int 0, .int 0, .int 0, .int 0, .int 0, .int 0, .int 0, .long 0, .int 0, .null, .int 0])) :: [(q8, .inl (T 0, 202, .inl fun _ => 0)), (q17, .inl (T 0, 202, .inl fun _ => 0)), (q26, .inl (T 0, 202, .inl fun _ => 0)), (q35, .inl (T 0, 1616, .inl fun _ => 0))]) := hD
  refine va_putF (D := D) (ci := 10) (v := .ref q35) (ty := .array .int) (C := RX10) (T := TX10) (N := 19) hx hb hts i10 tyX10 tyX10_ok nmX10 hown hK hP hD hS 0 rfl rfl 3 (by decide) w8 (fun _ h9 => h9) rfl hin rfl (by decide +kernel) rfl rfl (Nat.le_of_ble_eq_true rfl) dX10_init_37 (fun H locs hP hD hS => ?_)
  have hP : va_P D vwCl ((b, .inr (10, [.ref q8, .ref q17, .ref q26, .ref q35, .null, .null, .int 0, .null, .int 0, .int 0, .int 0, .int 0, .int 0, .int 0, .int 0, .long 0, .int 0, .null, .int 0])) :: [(q8, .inl (T 0, 202, .inl fun _ => 0)), (q17, .inl (T 0, 202, .inl fun _ => 0)), (q26, .inl (T 0, 202, .inl fun _ => 0)), (q35, .inl (T 0, 1616, .inl fun _ => 0))]) H := hP
  have hD : va_D A ((b, .inr (10, [.ref q8, .ref q17, .ref q26, .ref q35, .null, .null, .int 0, .null, .int 0, .int 0, .int 0, .int 0, .int 0, .int 0, .int 0, .long 0, .int 0, .null, .int 0])) :: [(q8, .inl (T 0, 202, .inl fun _ => 0)), (q17, .inl (T 0, 202, .inl fun _ => 0)), (q26, .inl (T 0, 202, .inl fun _ => 0)), (q35, .inl (T 0, 1616, .inl fun _ => 0))]) := hD
  refine lv_aload_n hx hb dX10_init_40 rfl (lv_at hl 0 rfl) ?_
  refine lv_sipush (v := 404) hx hb dX10_init_41 (by decide) ?_
  refine newI (N' := 404) hx hb w4 hK hP hD hS hA (by decide) (by decide) (by decide) (Nat.le_of_ble_eq_true rfl) (Nat.le_of_ble_eq_true rfl) dX10_init_44 (fun q44 H hP hD hS => ?_)
  have hP : va_P D vwCl ((b, .inr (10, [.ref q8, .ref q17, .ref q26, .ref q35, .null, .null, .int 0, .null, .int 0, .int 0, .int 0, .int 0, .int 0, .int 0, .int 0, .long 0, .int 0, .null, .int 0])) :: [(q8, .inl (T 0, 202, .inl fun _ => 0)), (q17, .inl (T 0, 202, .inl fun _ => 0)), (q26, .inl (T 0, 202, .inl fun _ => 0)), (q35, .inl (T 0, 1616, .inl fun _ => 0)), (q44, .inl (T 0, 404, .inl fun _ => 0))]) H := hP
  have hD : va_D A ((b, .inr (10, [.ref q8, .ref q17, .ref q26, .ref q35, .null, .null, .int 0, .null, .int 0, .int 0, .int 0, .int 0, .int 0, .int 0, .int 0, .long 0, .int 0, .null, .int 0])) :: [(q8, .inl (T 0, 202, .inl fun _ => 0)), (q17, .inl (T 0, 202, .inl fun _ => 0)), (q26, .inl (T 0, 202, .inl fun _ => 0)), (q35, .inl (T 0, 1616, .inl fun _ => 0)), (q44, .inl (T 0, 404, .inl fun _ => 0))]) := hD
  refine va_putF (D := D) (ci := 10) (v := .ref q44) (ty := .array .int) (C := RX10) (T := TX10) (N := 19) hx hb hts i10 tyX10 tyX10_ok nmX10 hown hK hP hD hS 0 rfl rfl 4 (by decide) w9 (fun _ h9 => h9) rfl hin rfl (by decide +kernel) rfl rfl (Nat.le_of_ble_eq_true rfl) dX10_init_46 (fun H locs hP hD hS => ?_)
  have hP : va_P D vwCl ((b, .inr (10, [.ref q8, .ref q17, .ref q26, .ref q35, .ref q44, .null, .int 0, .null, .int 0, .int 0, .int 0, .int 0, .int 0, .int 0, .int 0, .long 0, .int 0, .null, .int 0])) :: [(q8, .inl (T 0, 202, .inl fun _ => 0)), (q17, .inl (T 0, 202, .inl fun _ => 0)), (q26, .inl (T 0, 202, .inl fun _ => 0)), (q35, .inl (T 0, 1616, .inl fun _ => 0)), (q44, .inl (T 0, 404, .inl fun _ => 0))]) H := hP
  have hD : va_D A ((b, .inr (10, [.ref q8, .ref q17, .ref q26, .ref q35, .ref q44, .null, .int 0, .null, .int 0, .int 0, .int 0, .int 0, .int 0, .int 0, .int 0, .long 0, .int 0, .null, .int 0])) :: [(q8, .inl (T 0, 202, .inl fun _ => 0)), (q17, .inl (T 0, 202, .inl fun _ => 0)), (q26, .inl (T 0, 202, .inl fun _ => 0)), (q35, .inl (T 0, 1616, .inl fun _ => 0)), (q44, .inl (T 0, 404, .inl fun _ => 0))]) := hD
  refine lv_aload_n hx hb dX10_init_49 rfl (lv_at hl 0 rfl) ?_
  refine lv_iconst (v := 2) hx hb dX10_init_50 (by decide) ?_
  refine newZ (N' := 2) hx hb w10 hK hP hD hS hA (by decide) (by decide) (by decide) (Nat.le_of_ble_eq_true rfl) (Nat.le_of_ble_eq_true rfl) dX10_init_51 (fun q51 H hP hD hS => ?_)
  have hP : va_P D vwCl ((b, .inr (10, [.ref q8, .ref q17, .ref q26, .ref q35, .ref q44, .null, .int 0, .null, .int 0, .int 0, .int 0, .int 0, .int 0, .int 0, .int 0, .long 0, .int 0, .null, .int 0])) :: [(q8, .inl (T 0, 202, .inl fun _ => 0)), (q17, .inl (T 0, 202, .inl fun _ => 0)), (q26, .inl (T 0, 202, .inl fun _ => 0)), (q35, .inl (T 0, 1616, .inl fun _ => 0)), (q44, .inl (T 0, 404, .inl fun _ => 0)), (q51, .inl (T 1, 2, .inl fun _ => 0))]) H := hP
  have hD : va_D A ((b, .inr (10, [.ref q8, .ref q17, .ref q26, .ref q35, .ref q44, .null, .int 0, .null, .int 0, .int 0, .int 0, .int 0, .int 0, .int 0, .int 0, .long 0, .int 0, .null, .int 0])) :: [(q8, .inl (T 0, 202, .inl fun _ => 0)), (q17, .inl (T 0, 202, .inl fun _ => 0)), (q26, .inl (T 0, 202, .inl fun _ => 0)), (q35, .inl (T 0, 1616, .inl fun _ => 0)), (q44, .inl (T 0, 404, .inl fun _ => 0)), (q51, .inl (T 1, 2, .inl fun _ => 0))]) := hD
  refine va_putF (D := D) (ci := 10) (v := .ref q51) (ty := .array .boolean) (C := RX10) (T := TX10) (N := 19) hx hb hts i10 tyX10 tyX10_ok nmX10 hown hK hP hD hS 0 rfl rfl 5 (by decide) w11 (fun _ h9 => h9) rfl hin rfl (by decide +kernel) rfl rfl (Nat.le_of_ble_eq_true rfl) dX10_init_53 (fun H locs hP hD hS => ?_)
  have hP : va_P D vwCl ((b, .inr (10, [.ref q8, .ref q17, .ref q26, .ref q35, .ref q44, .ref q51, .int 0, .null, .int 0, .int 0, .int 0, .int 0, .int 0, .int 0, .int 0, .long 0, .int 0, .null, .int 0])) :: [(q8, .inl (T 0, 202, .inl fun _ => 0)), (q17, .inl (T 0, 202, .inl fun _ => 0)), (q26, .inl (T 0, 202, .inl fun _ => 0)), (q35, .inl (T 0, 1616, .inl fun _ => 0)), (q44, .inl (T 0, 404, .inl fun _ => 0)), (q51, .inl (T 1, 2, .inl fun _ => 0))]) H := hP
  have hD : va_D A ((b, .inr (10, [.ref q8, .ref q17, .ref q26, .ref q35, .ref q44, .ref q51, .int 0, .null, .int 0, .int 0, .int 0, .int 0, .int 0, .int 0, .int 0, .long 0, .int 0, .null, .int 0])) :: [(q8, .inl (T 0, 202, .inl fun _ => 0)), (q17, .inl (T 0, 202, .inl fun _ => 0)), (q26, .inl (T 0, 202, .inl fun _ => 0)), (q35, .inl (T 0, 1616, .inl fun _ => 0)), (q44, .inl (T 0, 404, .inl fun _ => 0)), (q51, .inl (T 1, 2, .inl fun _ => 0))]) := hD
  refine lv_aload_n hx hb dX10_init_56 rfl (lv_at hl 0 rfl) ?_
  refine lv_sipush (v := 600) hx hb dX10_init_57 (by decide) ?_
  refine newI (N' := 600) hx hb w4 hK hP hD hS hA (by decide) (by decide) (by decide) (Nat.le_of_ble_eq_true rfl) (Nat.le_of_ble_eq_true rfl) dX10_init_60 (fun q60 H hP hD hS => ?_)
  have hP : va_P D vwCl ((b, .inr (10, [.ref q8, .ref q17, .ref q26, .ref q35, .ref q44, .ref q51, .int 0, .null, .int 0, .int 0, .int 0, .int 0, .int 0, .int 0, .int 0, .long 0, .int 0, .null, .int 0])) :: [(q8, .inl (T 0, 202, .inl fun _ => 0)), (q17, .inl (T 0, 202, .inl fun _ => 0)), (q26, .inl (T 0, 202, .inl fun _ => 0)), (q35, .inl (T 0, 1616, .inl fun _ => 0)), (q44, .inl (T 0, 404, .inl fun _ => 0)), (q51, .inl (T 1, 2, .inl fun _ => 0)), (q60, .inl (T 0, 600, .inl fun _ => 0))]) H := hP
  have hD : va_D A ((b, .inr (10, [.ref q8, .ref q17, .ref q26, .ref q35, .ref q44, .ref q51, .int 0, .null, .int 0, .int 0, .int 0, .int 0, .int 0, .int 0, .int 0, .long 0, .int 0, .null, .int 0])) :: [(q8, .inl (T 0, 202, .inl fun _ => 0)), (q17, .inl (T 0, 202, .inl fun _ => 0)), (q26, .inl (T 0, 202, .inl fun _ => 0)), (q35, .inl (T 0, 1616, .inl fun _ => 0)), (q44, .inl (T 0, 404, .inl fun _ => 0)), (q51, .inl (T 1, 2, .inl fun _ => 0)), (q60, .inl (T 0, 600, .inl fun _ => 0))]) := hD
  refine va_putF (D := D) (ci := 10) (v := .ref q60) (ty := .array .int) (C := RX10) (T := TX10) (N := 19) hx hb hts i10 tyX10 tyX10_ok nmX10 hown hK hP hD hS 0 rfl rfl 7 (by decide) w12 (fun _ h9 => h9) rfl hin rfl (by decide +kernel) rfl rfl (Nat.le_of_ble_eq_true rfl) dX10_init_62 (fun H locs hP hD hS => ?_)
  have hP : va_P D vwCl ((b, .inr (10, [.ref q8, .ref q17, .ref q26, .ref q35, .ref q44, .ref q51, .int 0, .ref q60, .int 0, .int 0, .int 0, .int 0, .int 0, .int 0, .int 0, .long 0, .int 0, .null, .int 0])) :: [(q8, .inl (T 0, 202, .inl fun _ => 0)), (q17, .inl (T 0, 202, .inl fun _ => 0)), (q26, .inl (T 0, 202, .inl fun _ => 0)), (q35, .inl (T 0, 1616, .inl fun _ => 0)), (q44, .inl (T 0, 404, .inl fun _ => 0)), (q51, .inl (T 1, 2, .inl fun _ => 0)), (q60, .inl (T 0, 600, .inl fun _ => 0))]) H := hP
  have hD : va_D A ((b, .inr (10, [.ref q8, .ref q17, .ref q26, .ref q35, .ref q44, .ref q51, .int 0, .ref q60, .int 0, .int 0, .int 0, .int 0, .int 0, .int 0, .int 0, .long 0, .int 0, .null, .int 0])) :: [(q8, .inl (T 0, 202, .inl fun _ => 0)), (q17, .inl (T 0, 202, .inl fun _ => 0)), (q26, .inl (T 0, 202, .inl fun _ => 0)), (q35, .inl (T 0, 1616, .inl fun _ => 0)), (q44, .inl (T 0, 404, .inl fun _ => 0)), (q51, .inl (T 1, 2, .inl fun _ => 0)), (q60, .inl (T 0, 600, .inl fun _ => 0))]) := hD
  refine lv_aload_n hx hb dX10_init_65 rfl (lv_at hl 0 rfl) ?_
  refine lv_iconst (v := -1) hx hb dX10_init_66 (by decide) ?_
  refine va_put (D := D) (ci := 10) (v := .int (-1)) (ty := .int) (C := RX10) (T := TX10) (N := 19) hx hb hts i10 tyX10 tyX10_ok nmX10 hown hK hP hD hS 0 rfl rfl 9 (by decide) w13 (fun _ h9 => h9) rfl (by decide +kernel) rfl rfl (Nat.le_of_ble_eq_true rfl) dX10_init_67 (fun H locs hP hD hS => ?_)
  have hP : va_P D vwCl ((b, .inr (10, [.ref q8, .ref q17, .ref q26, .ref q35, .ref q44, .ref q51, .int 0, .ref q60, .int 0, .int (-1), .int 0, .int 0, .int 0, .int 0, .int 0, .long 0, .int 0, .null, .int 0])) :: [(q8, .inl (T 0, 202, .inl fun _ => 0)), (q17, .inl (T 0, 202, .inl fun _ => 0)), (q26, .inl (T 0, 202, .inl fun _ => 0)), (q35, .inl (T 0, 1616, .inl fun _ => 0)), (q44, .inl (T 0, 404, .inl fun _ => 0)), (q51, .inl (T 1, 2, .inl fun _ => 0)), (q60, .inl (T 0, 600, .inl fun _ => 0))]) H := hP
  have hD : va_D A ((b, .inr (10, [.ref q8, .ref q17, .ref q26, .ref q35, .ref q44, .ref q51, .int 0, .ref q60, .int 0, .int (-1), .int 0, .int 0, .int 0, .int 0, .int 0, .long 0, .int 0, .null, .int 0])) :: [(q8, .inl (T 0, 202, .inl fun _ => 0)), (q17, .inl (T 0, 202, .inl fun _ => 0)), (q26, .inl (T 0, 202, .inl fun _ => 0)), (q35, .inl (T 0, 1616, .inl fun _ => 0)), (q44, .inl (T 0, 404, .inl fun _ => 0)), (q51, .inl (T 1, 2, .inl fun _ => 0)), (q60, .inl (T 0, 600, .inl fun _ => 0))]) := hD
  refine lv_aload_n hx hb dX10_init_70 rfl (lv_at hl 0 rfl) ?_
  refine lv_sipush (v := 200) hx hb dX10_init_71 (by decide) ?_
  refine newI (N' := 200) hx hb w4 hK hP hD hS hA (by decide) (by decide) (by decide) (Nat.le_of_ble_eq_true rfl) (Nat.le_of_ble_eq_true rfl) dX10_init_74 (fun q74 H hP hD hS => ?_)
  have hP : va_P D vwCl ((b, .inr (10, [.ref q8, .ref q17, .ref q26, .ref q35, .ref q44, .ref q51, .int 0, .ref q60, .int 0, .int (-1), .int 0, .int 0, .int 0, .int 0, .int 0, .long 0, .int 0, .null, .int 0])) :: [(q8, .inl (T 0, 202, .inl fun _ => 0)), (q17, .inl (T 0, 202, .inl fun _ => 0)), (q26, .inl (T 0, 202, .inl fun _ => 0)), (q35, .inl (T 0, 1616, .inl fun _ => 0)), (q44, .inl (T 0, 404, .inl fun _ => 0)), (q51, .inl (T 1, 2, .inl fun _ => 0)), (q60, .inl (T 0, 600, .inl fun _ => 0)), (q74, .inl (T 0, 200, .inl fun _ => 0))]) H := hP
  have hD : va_D A ((b, .inr (10, [.ref q8, .ref q17, .ref q26, .ref q35, .ref q44, .ref q51, .int 0, .ref q60, .int 0, .int (-1), .int 0, .int 0, .int 0, .int 0, .int 0, .long 0, .int 0, .null, .int 0])) :: [(q8, .inl (T 0, 202, .inl fun _ => 0)), (q17, .inl (T 0, 202, .inl fun _ => 0)), (q26, .inl (T 0, 202, .inl fun _ => 0)), (q35, .inl (T 0, 1616, .inl fun _ => 0)), (q44, .inl (T 0, 404, .inl fun _ => 0)), (q51, .inl (T 1, 2, .inl fun _ => 0)), (q60, .inl (T 0, 600, .inl fun _ => 0)), (q74, .inl (T 0, 200, .inl fun _ => 0))]) := hD
  refine va_putF (D := D) (ci := 10) (v := .ref q74) (ty := .array .int) (C := RX10) (T := TX10) (N := 19) hx hb hts i10 tyX10 tyX10_ok nmX10 hown hK hP hD hS 0 rfl rfl 17 (by decide) w14 (fun _ h9 => h9) rfl hin rfl (by decide +kernel) rfl rfl (Nat.le_of_ble_eq_true rfl) dX10_init_76 (fun H locs hP hD hS => ?_)
  have hP : va_P D vwCl ((b, .inr (10, [.ref q8, .ref q17, .ref q26, .ref q35, .ref q44, .ref q51, .int 0, .ref q60, .int 0, .int (-1), .int 0, .int 0, .int 0, .int 0, .int 0, .long 0, .int 0, .ref q74, .int 0])) :: [(q8, .inl (T 0, 202, .inl fun _ => 0)), (q17, .inl (T 0, 202, .inl fun _ => 0)), (q26, .inl (T 0, 202, .inl fun _ => 0)), (q35, .inl (T 0, 1616, .inl fun _ => 0)), (q44, .inl (T 0, 404, .inl fun _ => 0)), (q51, .inl (T 1, 2, .inl fun _ => 0)), (q60, .inl (T 0, 600, .inl fun _ => 0)), (q74, .inl (T 0, 200, .inl fun _ => 0))]) H := hP
  have hD : va_D A ((b, .inr (10, [.ref q8, .ref q17, .ref q26, .ref q35, .ref q44, .ref q51, .int 0, .ref q60, .int 0, .int (-1), .int 0, .int 0, .int 0, .int 0, .int 0, .long 0, .int 0, .ref q74, .int 0])) :: [(q8, .inl (T 0, 202, .inl fun _ => 0)), (q17, .inl (T 0, 202, .inl fun _ => 0)), (q26, .inl (T 0, 202, .inl fun _ => 0)), (q35, .inl (T 0, 1616, .inl fun _ => 0)), (q44, .inl (T 0, 404, .inl fun _ => 0)), (q51, .inl (T 1, 2, .inl fun _ => 0)), (q60, .inl (T 0, 600, .inl fun _ => 0)), (q74, .inl (T 0, 200, .inl fun _ => 0))]) := hD
  obtain ⟨x, hx9⟩ : ∃ x : Nat → Nat, x = (fun i => [b, q8, q17, q26, q35, q44, q51, q60, q74].getD i 0) := ⟨_, rfl⟩
  have hP : va_P D vwCl (REF T (fun i => [b, q8, q17, q26, q35, q44, q51, q60, q74].getD i 0) yZ 0) H := hP
  have hD : va_D A (REF T (fun i => [b, q8, q17, q26, q35, q44, q51, q60, q74].getD i 0) yZ 0) := hD
  rw [← hx9] at hP hD
  have hx0 : x 0 = b := by rw [hx9]; rfl
  refine W.widen (k := 8) (n := 3428) (Nat.le_of_ble_eq_true rfl) (Nat.le_of_ble_eq_true rfl) ?_
  have hret : ∀ (H : Heap) (locs : List Loc) (ls : Array Slot) (pc : Nat), decode cX10_init pc = .ok (.return_, 1) → va_P D vwCl (REF T x yI0 0) H → va_D A (REF T x yI0 0) → va_S A s.heap H locs → W p l e ({ frames := 2, cells := 8, slots := 3428, locals := 45 } : Room) s m args below meth c H locs 8 3428 Q (F0 m pc ls []) := fun H locs ls pc hd hP hD hS => hret x H locs ls pc hx0 hd hP hD hS
  rw [← hx0] at hl
  refine lv_aload_n hx hb dX10_init_79 rfl (lv_at hl 0 rfl) ?_
  refine va_get (D := D) (ci := 10) (v := .ref (x 1)) (C := RX10) (T := TX10) (N := 19) hx hb hts i10 hown hK hP 0 rfl rfl 0 (by decide) w5 (fun _ h9 => h9) rfl dX10_init_80 ?_
  refine lv_iconst (v := 1) hx hb dX10_init_83 (by decide) ?_
  refine lv_bipush (v := 8) hx hb dX10_init_84 (by decide) ?_
  refine astI hx hb hK hP hD hS 1 0 rfl rfl (1) rfl (by omega) (by decide) dX10_init_86 (fun H locs hP hD hS => ?_)
  have hP : va_P D vwCl (REF T x (va_up yZ 1 (va_up (yZ 1) 1 8)) 0) H := hP
  have hD : va_D A (REF T x (va_up yZ 1 (va_up (yZ 1) 1 8)) 0) := hD
  refine lv_aload_n hx hb dX10_init_87 rfl (lv_at hl 0 rfl) ?_
  refine va_get (D := D) (ci := 10) (v := .ref (x 1)) (C := RX10) (T := TX10) (N := 19) hx hb hts i10 hown hK hP 0 rfl rfl 0 (by decide) w5 (fun _ h9 => h9) rfl dX10_init_88 ?_
  refine lv_iconst (v := 2) hx hb dX10_init_91 (by decide) ?_
  refine lv_iconst (v := 2) hx hb dX10_init_92 (by decide) ?_
  refine astI hx hb hK hP hD hS 1 0 rfl rfl (2) rfl (by omega) (by decide) dX10_init_93 (fun H locs hP hD hS => ?_)
  have hP : va_P D vwCl (REF T x (va_up yZ 1 (va_up (va_up (yZ 1) 1 8) 2 2)) 0) H := hP
  have hD : va_D A (REF T x (va_up yZ 1 (va_up (va_up (yZ 1) 1 8) 2 2)) 0) := hD
  refine lv_aload_n hx hb dX10_init_94 rfl (lv_at hl 0 rfl) ?_
  refine va_get (D := D) (ci := 10) (v := .ref (x 1)) (C := RX10) (T := TX10) (N := 19) hx hb hts i10 hown hK hP 0 rfl rfl 0 (by decide) w5 (fun _ h9 => h9) rfl dX10_init_95 ?_
  refine lv_iconst (v := 3) hx hb dX10_init_98 (by decide) ?_
  refine lv_bipush (v := 6) hx hb dX10_init_99 (by decide) ?_
  refine astI hx hb hK hP hD hS 1 0 rfl rfl (3) rfl (by omega) (by decide) dX10_init_101 (fun H locs hP hD hS => ?_)
  have hP : va_P D vwCl (REF T x (va_up yZ 1 (va_up (va_up (va_up (yZ 1) 1 8) 2 2) 3 6)) 0) H := hP
  have hD : va_D A (REF T x (va_up yZ 1 (va_up (va_up (va_up (yZ 1) 1 8) 2 2) 3 6)) 0) := hD
  have hP : va_P D vwCl (REF T x (va_up yZ 1 rI0) 0) H := hP
  have hD : va_D A (REF T x (va_up yZ 1 rI0) 0) := hD
  refine lv_aload_n hx hb dX10_init_102 rfl (lv_at hl 0 rfl) ?_
  refine va_get (D := D) (ci := 10) (v := .ref (x 1)) (C := RX10) (T := TX10) (N := 19) hx hb hts i10 hown hK hP 0 rfl rfl 0 (by decide) w5 (fun _ h9 => h9) rfl dX10_init_103 ?_
  refine lv_iconst (v := 0) hx hb dX10_init_106 (by decide) ?_
  refine wrSv (As := [.ref (x 1), .int (0)]) (rest := []) ⟨hx, hb, hml, hown, hts⟩ (c_X10_addsCloud l D T (x 1) rI0 0 0 rI_c.1 (by decide) _) (va_cwS 2 hts gX10_init_X10_addsCloud rfl rfl rfl (by decide +kernel) ⟨Nat.le_of_ble_eq_true rfl, Nat.le_of_ble_eq_true rfl⟩) (show Foc (REF T x (va_up yZ 1 rI0) 0) _ (REF T x (va_up yZ 1 (rAddsCloud rI0 0 0)) 0) _ from Foc.one 1 rfl) hK hP hD hS hA rfl hl.1 rfl (Nat.le_of_ble_eq_true rfl) ⟨Nat.le_of_ble_eq_true rfl, Nat.le_of_ble_eq_true rfl⟩ dX10_init_107 (fun H locs hP hD hS => ?_)
  have hP : va_P D vwCl (REF T x (va_up yZ 1 (rAddsCloud rI0 0 0)) 0) H := hP
  have hD : va_D A (REF T x (va_up yZ 1 (rAddsCloud rI0 0 0)) 0) := hD
  have hP : va_P D vwCl (REF T x (va_up yZ 1 rI1) 0) H := hP
  have hD : va_D A (REF T x (va_up yZ 1 rI1) 0) := hD
  refine lv_aload_n hx hb dX10_init_110 rfl (lv_at hl 0 rfl) ?_
  refine va_get (D := D) (ci := 10) (v := .ref (x 1)) (C := RX10) (T := TX10) (N := 19) hx hb hts i10 hown hK hP 0 rfl rfl 0 (by decide) w5 (fun _ h9 => h9) rfl dX10_init_111 ?_
  refine lv_iconst (v := 3) hx hb dX10_init_114 (by decide) ?_
  refine wrSv (As := [.ref (x 1), .int (3)]) (rest := []) ⟨hx, hb, hml, hown, hts⟩ (c_X10_addsCloud l D T (x 1) rI1 3 1 rI_c.2.1 (by decide) _) (va_cwS 2 hts gX10_init_X10_addsCloud rfl rfl rfl (by decide +kernel) ⟨Nat.le_of_ble_eq_true rfl, Nat.le_of_ble_eq_true rfl⟩) (show Foc (REF T x (va_up yZ 1 rI1) 0) _ (REF T x (va_up yZ 1 (rAddsCloud rI1 1 3)) 0) _ from Foc.one 1 rfl) hK hP hD hS hA rfl hl.1 rfl (Nat.le_of_ble_eq_true rfl) ⟨Nat.le_of_ble_eq_true rfl, Nat.le_of_ble_eq_true rfl⟩ dX10_init_115 (fun H locs hP hD hS => ?_)
  have hP : va_P D vwCl (REF T x (va_up yZ 1 (rAddsCloud rI1 1 3)) 0) H := hP
  have hD : va_D A (REF T x (va_up yZ 1 (rAddsCloud rI1 1 3)) 0) := hD
  have hP : va_P D vwCl (REF T x (va_up yZ 1 rI2) 0) H := hP
  have hD : va_D A (REF T x (va_up yZ 1 rI2) 0) := hD
  refine lv_aload_n hx hb dX10_init_118 rfl (lv_at hl 0 rfl) ?_
  refine va_get (D := D) (ci := 10) (v := .ref (x 1)) (C := RX10) (T := TX10) (N := 19) hx hb hts i10 hown hK hP 0 rfl rfl 0 (by decide) w5 (fun _ h9 => h9) rfl dX10_init_119 ?_
  refine lv_bipush (v := 9) hx hb dX10_init_122 (by decide) ?_
  refine wrSv (As := [.ref (x 1), .int (9)]) (rest := []) ⟨hx, hb, hml, hown, hts⟩ (c_X10_addsCloud l D T (x 1) rI2 9 2 rI_c.2.2 (by decide) _) (va_cwS 2 hts gX10_init_X10_addsCloud rfl rfl rfl (by decide +kernel) ⟨Nat.le_of_ble_eq_true rfl, Nat.le_of_ble_eq_true rfl⟩) (show Foc (REF T x (va_up yZ 1 rI2) 0) _ (REF T x (va_up yZ 1 (rAddsCloud rI2 2 9)) 0) _ from Foc.one 1 rfl) hK hP hD hS hA rfl hl.1 rfl (Nat.le_of_ble_eq_true rfl) ⟨Nat.le_of_ble_eq_true rfl, Nat.le_of_ble_eq_true rfl⟩ dX10_init_124 (fun H locs hP hD hS => ?_)
  have hP : va_P D vwCl (REF T x (va_up yZ 1 (rAddsCloud rI2 2 9)) 0) H := hP
  have hD : va_D A (REF T x (va_up yZ 1 (rAddsCloud rI2 2 9)) 0) := hD
  have hP : va_P D vwCl (REF T x (va_up yZ 1 rI3) 0) H := hP
  have hD : va_D A (REF T x (va_up yZ 1 rI3) 0) := hD
  refine lv_aload_n hx hb dX10_init_127 rfl (lv_at hl 0 rfl) ?_
  refine va_get (D := D) (ci := 10) (v := .ref (x 1)) (C := RX10) (T := TX10) (N := 19) hx hb hts i10 hown hK hP 0 rfl rfl 0 (by decide) w5 (fun _ h9 => h9) rfl dX10_init_128 ?_
  refine lv_iconst (v := 3) hx hb dX10_init_131 (by decide) ?_
  refine lv_bipush (v := 20) hx hb dX10_init_132 (by decide) ?_
  refine wrSi (As := [.ref (x 1), .int (3), .int (20)]) (rest := []) ⟨hx, hb, hml, hown, hts⟩ (c_X10_addsClerk l D T (x 1) rI3 3 20 0 rI_k.1 (by decide) _) (va_cwS 3 hts gX10_init_X10_addsClerk rfl rfl rfl (by decide +kernel) ⟨Nat.le_of_ble_eq_true rfl, Nat.le_of_ble_eq_true rfl⟩) (show Foc (REF T x (va_up yZ 1 rI3) 0) _ (REF T x (va_up yZ 1 (rAddsClerk rI3 0 3 20)) 0) _ from Foc.one 1 rfl) hK hP hD hS hA rfl hl.1 rfl (Nat.le_of_ble_eq_true rfl) ⟨Nat.le_of_ble_eq_true rfl, Nat.le_of_ble_eq_true rfl⟩ dX10_init_134 (fun H locs hP hD hS => ?_)
  have hP : va_P D vwCl (REF T x (va_up yZ 1 (rAddsClerk rI3 0 3 20)) 0) H := hP
  have hD : va_D A (REF T x (va_up yZ 1 (rAddsClerk rI3 0 3 20)) 0) := hD
  have hP : va_P D vwCl (REF T x (va_up yZ 1 rI4) 0) H := hP
  have hD : va_D A (REF T x (va_up yZ 1 rI4) 0) := hD
  refine lv_pop hx hb dX10_init_137 rfl ?_
  refine lv_aload_n hx hb dX10_init_138 rfl (lv_at hl 0 rfl) ?_
  refine va_get (D := D) (ci := 10) (v := .ref (x 1)) (C := RX10) (T := TX10) (N := 19) hx hb hts i10 hown hK hP 0 rfl rfl 0 (by decide) w5 (fun _ h9 => h9) rfl dX10_init_139 ?_
  refine lv_bipush (v := 7) hx hb dX10_init_142 (by decide) ?_
  refine lv_iconst (v := 5) hx hb dX10_init_144 (by decide) ?_
  refine wrSi (As := [.ref (x 1), .int (7), .int (5)]) (rest := []) ⟨hx, hb, hml, hown, hts⟩ (c_X10_addsClerk l D T (x 1) rI4 7 5 1 rI_k.2 (by decide) _) (va_cwS 3 hts gX10_init_X10_addsClerk rfl rfl rfl (by decide +kernel) ⟨Nat.le_of_ble_eq_true rfl, Nat.le_of_ble_eq_true rfl⟩) (show Foc (REF T x (va_up yZ 1 rI4) 0) _ (REF T x (va_up yZ 1 (rAddsClerk rI4 1 7 5)) 0) _ from Foc.one 1 rfl) hK hP hD hS hA rfl hl.1 rfl (Nat.le_of_ble_eq_true rfl) ⟨Nat.le_of_ble_eq_true rfl, Nat.le_of_ble_eq_true rfl⟩ dX10_init_145 (fun H locs hP hD hS => ?_)
  have hP : va_P D vwCl (REF T x (va_up yZ 1 (rAddsClerk rI4 1 7 5)) 0) H := hP
  have hD : va_D A (REF T x (va_up yZ 1 (rAddsClerk rI4 1 7 5)) 0) := hD
  have hP : va_P D vwCl (REF T x (va_up yZ 1 rI5) 0) H := hP
  have hD : va_D A (REF T x (va_up yZ 1 rI5) 0) := hD
  refine lv_pop hx hb dX10_init_148 rfl ?_
  refine lv_aload_n hx hb dX10_init_149 rfl (lv_at hl 0 rfl) ?_
  refine va_get (D := D) (ci := 10) (v := .ref (x 1)) (C := RX10) (T := TX10) (N := 19) hx hb hts i10 hown hK hP 0 rfl rfl 0 (by decide) w5 (fun _ h9 => h9) rfl dX10_init_150 ?_
  refine lv_iconst (v := 4) hx hb dX10_init_153 (by decide) ?_
  refine lv_iconst (v := 0) hx hb dX10_init_154 (by decide) ?_
  refine lv_iconst (v := 5) hx hb dX10_init_155 (by decide) ?_
  refine wrSi (As := [.ref (x 1), .int (4), .int (0), .int (5)]) (rest := []) ⟨hx, hb, hml, hown, hts⟩ (c_X10_files l D T (x 1) rI5 4 0 5 0 rI_n.1 (by decide) _) (va_cwS 4 hts gX10_init_X10_files rfl rfl rfl (by decide +kernel) ⟨Nat.le_of_ble_eq_true rfl, Nat.le_of_ble_eq_true rfl⟩) (show Foc (REF T x (va_up yZ 1 rI5) 0) _ (REF T x (va_up yZ 1 (rFiles rI5 0 4 0 5)) 0) _ from Foc.one 1 rfl) hK hP hD hS hA rfl hl.1 rfl (Nat.le_of_ble_eq_true rfl) ⟨Nat.le_of_ble_eq_true rfl, Nat.le_of_ble_eq_true rfl⟩ dX10_init_156 (fun H locs hP hD hS => ?_)
  have hP : va_P D vwCl (REF T x (va_up yZ 1 (rFiles rI5 0 4 0 5)) 0) H := hP
  have hD : va_D A (REF T x (va_up yZ 1 (rFiles rI5 0 4 0 5)) 0) := hD
  have hP : va_P D vwCl (REF T x (va_up yZ 1 rI6) 0) H := hP
  have hD : va_D A (REF T x (va_up yZ 1 rI6) 0) := hD
  refine lv_pop hx hb dX10_init_159 rfl ?_
  refine lv_aload_n hx hb dX10_init_160 rfl (lv_at hl 0 rfl) ?_
  refine va_get (D := D) (ci := 10) (v := .ref (x 1)) (C := RX10) (T := TX10) (N := 19) hx hb hts i10 hown hK hP 0 rfl rfl 0 (by decide) w5 (fun _ h9 => h9) rfl dX10_init_161 ?_
  refine lv_iconst (v := 4) hx hb dX10_init_164 (by decide) ?_
  refine lv_iconst (v := 1) hx hb dX10_init_165 (by decide) ?_
  refine lv_iconst (v := 2) hx hb dX10_init_166 (by decide) ?_
  refine wrSi (As := [.ref (x 1), .int (4), .int (1), .int (2)]) (rest := []) ⟨hx, hb, hml, hown, hts⟩ (c_X10_files l D T (x 1) rI6 4 1 2 1 rI_n.2.1 (by decide) _) (va_cwS 4 hts gX10_init_X10_files rfl rfl rfl (by decide +kernel) ⟨Nat.le_of_ble_eq_true rfl, Nat.le_of_ble_eq_true rfl⟩) (show Foc (REF T x (va_up yZ 1 rI6) 0) _ (REF T x (va_up yZ 1 (rFiles rI6 1 4 1 2)) 0) _ from Foc.one 1 rfl) hK hP hD hS hA rfl hl.1 rfl (Nat.le_of_ble_eq_true rfl) ⟨Nat.le_of_ble_eq_true rfl, Nat.le_of_ble_eq_true rfl⟩ dX10_init_167 (fun H locs hP hD hS => ?_)
  have hP : va_P D vwCl (REF T x (va_up yZ 1 (rFiles rI6 1 4 1 2)) 0) H := hP
  have hD : va_D A (REF T x (va_up yZ 1 (rFiles rI6 1 4 1 2)) 0) := hD
  have hP : va_P D vwCl (REF T x (va_up yZ 1 rI7) 0) H := hP
  have hD : va_D A (REF T x (va_up yZ 1 rI7) 0) := hD
  refine lv_pop hx hb dX10_init_170 rfl ?_
  refine lv_aload_n hx hb dX10_init_171 rfl (lv_at hl 0 rfl) ?_
  refine va_get (D := D) (ci := 10) (v := .ref (x 1)) (C := RX10) (T := TX10) (N := 19) hx hb hts i10 hown hK hP 0 rfl rfl 0 (by decide) w5 (fun _ h9 => h9) rfl dX10_init_172 ?_
  refine lv_bipush (v := 9) hx hb dX10_init_175 (by decide) ?_
  refine lv_iconst (v := 2) hx hb dX10_init_177 (by decide) ?_
  refine lv_bipush (v := 6) hx hb dX10_init_178 (by decide) ?_
  refine wrSi (As := [.ref (x 1), .int (9), .int (2), .int (6)]) (rest := []) ⟨hx, hb, hml, hown, hts⟩ (c_X10_files l D T (x 1) rI7 9 2 6 2 rI_n.2.2.1 (by decide) _) (va_cwS 4 hts gX10_init_X10_files rfl rfl rfl (by decide +kernel) ⟨Nat.le_of_ble_eq_true rfl, Nat.le_of_ble_eq_true rfl⟩) (show Foc (REF T x (va_up yZ 1 rI7) 0) _ (REF T x (va_up yZ 1 (rFiles rI7 2 9 2 6)) 0) _ from Foc.one 1 rfl) hK hP hD hS hA rfl hl.1 rfl (Nat.le_of_ble_eq_true rfl) ⟨Nat.le_of_ble_eq_true rfl, Nat.le_of_ble_eq_true rfl⟩ dX10_init_180 (fun H locs hP hD hS => ?_)
  have hP : va_P D vwCl (REF T x (va_up yZ 1 (rFiles rI7 2 9 2 6)) 0) H := hP
  have hD : va_D A (REF T x (va_up yZ 1 (rFiles rI7 2 9 2 6)) 0) := hD
  have hP : va_P D vwCl (REF T x (va_up yZ 1 rI8) 0) H := hP
  have hD : va_D A (REF T x (va_up yZ 1 rI8) 0) := hD
  refine lv_pop hx hb dX10_init_183 rfl ?_
  refine lv_aload_n hx hb dX10_init_184 rfl (lv_at hl 0 rfl) ?_
  refine va_get (D := D) (ci := 10) (v := .ref (x 1)) (C := RX10) (T := TX10) (N := 19) hx hb hts i10 hown hK hP 0 rfl rfl 0 (by decide) w5 (fun _ h9 => h9) rfl dX10_init_185 ?_
  refine lv_bipush (v := 30) hx hb dX10_init_188 (by decide) ?_
  refine lv_iconst (v := 3) hx hb dX10_init_190 (by decide) ?_
  refine lv_bipush (v := 9) hx hb dX10_init_191 (by decide) ?_
  refine wrSi (As := [.ref (x 1), .int (30), .int (3), .int (9)]) (rest := []) ⟨hx, hb, hml, hown, hts⟩ (c_X10_files l D T (x 1) rI8 30 3 9 3 rI_n.2.2.2 (by decide) _) (va_cwS 4 hts gX10_init_X10_files rfl rfl rfl (by decide +kernel) ⟨Nat.le_of_ble_eq_true rfl, Nat.le_of_ble_eq_true rfl⟩) (show Foc (REF T x (va_up yZ 1 rI8) 0) _ (REF T x (va_up yZ 1 (rFiles rI8 3 30 3 9)) 0) _ from Foc.one 1 rfl) hK hP hD hS hA rfl hl.1 rfl (Nat.le_of_ble_eq_true rfl) ⟨Nat.le_of_ble_eq_true rfl, Nat.le_of_ble_eq_true rfl⟩ dX10_init_193 (fun H locs hP hD hS => ?_)
  have hP : va_P D vwCl (REF T x (va_up yZ 1 (rFiles rI8 3 30 3 9)) 0) H := hP
  have hD : va_D A (REF T x (va_up yZ 1 (rFiles rI8 3 30 3 9)) 0) := hD
  have hP : va_P D vwCl (REF T x (va_up yZ 1 rI9) 0) H := hP
  have hD : va_D A (REF T x (va_up yZ 1 rI9) 0) := hD
  refine lv_pop hx hb dX10_init_196 rfl ?_
  have hE : (REF T x (va_up yZ 1 rI9) 0 : va_W) = (REF T x yI0 0) := by rfl
  exact hret _ _ _ _ dX10_init_197 (by rw [← hE]; exact hP) (by rw [← hE]; exact hD) hS
