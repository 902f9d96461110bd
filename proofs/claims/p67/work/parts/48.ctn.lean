set_option maxHeartbeats 4000000 in
set_option maxRecDepth 100000 in
theorem c_X9_init (l : Launch) (D : va_G) (T : Nat → ClassId) (aK aV : Nat → Nat) (b : Nat) (sz : Nat) : Met l yX9_init wsX9_init ({ frames := 9, cells := 192, slots := 3465, locals := 195 } : Room) (va_Pc [.ref b] (fun U => PS D T [(b, .inr (9, [.null, .null, .null, .null, .null, .null]))] sz U ∧ (NX U ∧ CX aK aV (va_A [(b, .inr (9, [.null, .null, .null, .null, .null, .null]))] sz) U U.heap))) (va_Qv (fun u : ((Nat → Nat) × (Nat → Nat → Nat)) => u.1 0 = b) (fun u t => QS D T (va_A [(b, .inr (9, [.null, .null, .null, .null, .null, .null]))] sz) (WIN T u.1 u.2 O0C g0C 0 0 0 0 (txL 124) (fun _ => 0) (fun _ => 0)) t) (va_A [(b, .inr (9, [.null, .null, .null, .null, .null, .null]))] sz)) 192 3465 (va_A [(b, .inr (9, [.null, .null, .null, .null, .null, .null]))] sz) := by
  refine metK (cc := cX9_init) (maxL := 2) (by decide) rfl (Nat.le_of_ble_eq_true rfl) rfl ?_
  intro p e s m args below meth c Q ls A hx hb hml hown hts hA9 hsz9 hB9 hP hK hD hA hS hl hin hret
  obtain ⟨hNX, hC⟩ := hB9
  rw [hsz9, ← hA9] at hC
  have hown : s.vm.findClass RX9 = some m.cls := hown
  have hl : lv_has ls 2 [(0, .ref (b))] := hl
  have i0 : ∀ w ∈ wsX00, w ∈ wsX9_init := by decide +kernel
  have i2 : ∀ w ∈ wsX20, w ∈ wsX9_init := by decide +kernel
  have i3 : ∀ w ∈ wsX30, w ∈ wsX9_init := by decide +kernel
  have i4 : ∀ w ∈ wsX40, w ∈ wsX9_init := by decide +kernel
  have i7 : ∀ w ∈ wsX70, w ∈ wsX9_init := by decide +kernel
  have i9 : ∀ w ∈ wsX90, w ∈ wsX9_init := by decide +kernel
  have w1 := hts (Cond.methodLink RX9 3 objectInit) (List.mem_of_getElem? (i := 1) rfl)
  have w2 := hts (Cond.instanceMethod objectInit) (List.mem_of_getElem? (i := 2) rfl)
  have w4 := hts (Cond.classLink RX9 9 RX2) (List.mem_of_getElem? (i := 4) rfl)
  have w5 := hts (Cond.instantiable RX2 4) (List.mem_of_getElem? (i := 5) rfl)
  have w6 := hts (Cond.initialized RX2) (List.mem_of_getElem? (i := 6) rfl)
  have w7 := hts (Cond.fieldLink RX9 12 "MoonComplaintWindow" "loader" "LMoonComplaintWindow$Loader;") (List.mem_of_getElem? (i := 7) rfl)
  have w8 := hts (Cond.classLink RX9 16 RX3) (List.mem_of_getElem? (i := 8) rfl)
  have w9 := hts (Cond.instantiable RX3 4) (List.mem_of_getElem? (i := 9) rfl)
  have w10 := hts (Cond.initialized RX3) (List.mem_of_getElem? (i := 10) rfl)
  have w11 := hts (Cond.fieldLink RX9 19 "MoonComplaintWindow" "office" "LMoonComplaintWindow$Office;") (List.mem_of_getElem? (i := 11) rfl)
  have w12 := hts (Cond.fieldLink RX9 23 "MoonComplaintWindow" "trial" "LMoonComplaintWindow$Office;") (List.mem_of_getElem? (i := 12) rfl)
  have w13 := hts (Cond.classLink RX9 26 RX0) (List.mem_of_getElem? (i := 13) rfl)
  have w14 := hts (Cond.instantiable RX0 3) (List.mem_of_getElem? (i := 14) rfl)
  have w15 := hts (Cond.initialized RX0) (List.mem_of_getElem? (i := 15) rfl)
  have w16 := hts (Cond.fieldLink RX9 29 "MoonComplaintWindow" "history" "LMoonComplaintWindow$History;") (List.mem_of_getElem? (i := 16) rfl)
  have w17 := hts (Cond.classLink RX9 33 RX7) (List.mem_of_getElem? (i := 17) rfl)
  have w18 := hts (Cond.instantiable RX7 2) (List.mem_of_getElem? (i := 18) rfl)
  have w19 := hts (Cond.initialized RX7) (List.mem_of_getElem? (i := 19) rfl)
  have w20 := hts (Cond.fieldLink RX9 36 "MoonComplaintWindow" "snapshots" "LMoonComplaintWindow$Snapshots;") (List.mem_of_getElem? (i := 20) rfl)
  have w21 := hts (Cond.classLink RX9 40 RX4) (List.mem_of_getElem? (i := 21) rfl)
  have w22 := hts (Cond.instantiable RX4 2) (List.mem_of_getElem? (i := 22) rfl)
  have w23 := hts (Cond.initialized RX4) (List.mem_of_getElem? (i := 23) rfl)
  have w24 := hts (Cond.fieldLink RX9 43 "MoonComplaintWindow" "page" "LMoonComplaintWindow$Page;") (List.mem_of_getElem? (i := 24) rfl)
  have w25 := hts (Cond.fieldLink RX9 55 "MoonComplaintWindow$Loader" "input" "LMoonComplaintWindow$Input;") (List.mem_of_getElem? (i := 25) rfl)
  have w26 := hts (Cond.fieldLink RX9 72 "MoonComplaintWindow$Loader" "draft" "LMoonComplaintWindow$Office;") (List.mem_of_getElem? (i := 26) rfl)
  have w27 := hts (Cond.instanceMethod yX2_init) (List.mem_of_getElem? (i := 27) rfl)
  have w41 := hts (Cond.instanceMethod yX3_init) (List.mem_of_getElem? (i := 41) rfl)
  have w75 := hts (Cond.methodLink RX9 28 yX0_init) (List.mem_of_getElem? (i := 75) rfl)
  have w76 := hts (Cond.instanceMethod yX0_init) (List.mem_of_getElem? (i := 76) rfl)
  have w81 := hts (Cond.methodLink RX9 35 yX7_init) (List.mem_of_getElem? (i := 81) rfl)
  have w82 := hts (Cond.instanceMethod yX7_init) (List.mem_of_getElem? (i := 82) rfl)
  have w89 := hts (Cond.instanceMethod yX4_init) (List.mem_of_getElem? (i := 89) rfl)
  have hP : va_P D vwCl ([(b, .inr (9, [.null, .null, .null, .null, .null, .null]))]) s.heap := hP
  refine lv_aload_n hx hb dX9_init_0 rfl (lv_at hl 0 rfl) ?_
  refine W.objInit hx hb hown w1 w2 (hts _ (List.mem_of_getElem? (i := 3) rfl)) rfl (by rw [hml]; exact hl.1) rfl dX9_init_1 (Nat.le_of_ble_eq_true rfl) (Nat.le_of_ble_eq_true rfl) ?_
  refine W.eq (g2 := F0 m 4 ls []) rfl ?_
  refine lv_aload_n hx hb dX9_init_4 rfl (lv_at hl 0 rfl) ?_
  refine va_new (ci := 2) (fs := [.int 0, .int 0, .null, .null]) (C := RX2) (T := TX2) (N := 4) hx hb hts i2 tyX2 tyX2_ok hown w4 w5 w6 hK hP hD hS hA rfl (fun j hj => by rcases (show j = 0 ∨ j = 1 ∨ j = 2 ∨ j = 3 by omega) with rfl | rfl | rfl | rfl <;> rfl) (Nat.le_of_ble_eq_true rfl) (Nat.le_of_ble_eq_true rfl) dX9_init_5 (fun q5 H hP hD hS => ?_)
  refine lv_dup hx hb dX9_init_8 rfl ?_
  refine wrKN (ws := (b, .inr (9, [.null, .null, .null, .null, .null, .null])) :: []) (rest := [.ref q5, .ref b]) ⟨hx, hb, hml, hown, hts⟩ (c_X2_init l D T q5 _) ⟨va_cnB (host := "MoonComplaintWindow") 0 hts gX9_init_X2_init_n11 rfl rfl rfl (hNX.1 (RX9, 11, yX2_init) (by decide +kernel)) w6 (by decide +kernel) ⟨Nat.le_of_ble_eq_true rfl, Nat.le_of_ble_eq_true rfl⟩, rfl, w27⟩ hNX hK hP hD hS hA hl.1 rfl (Nat.le_of_ble_eq_true rfl) ⟨Nat.le_of_ble_eq_true rfl, Nat.le_of_ble_eq_true rfl⟩ dX9_init_9 (fun u5 H locs hu hP5 hD5 hS5 => ?_)
  have hu : u5 0 = q5 := hu
  subst hu
  have hP := hP5
  have hD := hD5
  have hS := hS5
  have hP : va_P D vwCl ((b, .inr (9, [.null, .null, .null, .null, .null, .null])) :: ([] ++ LOA T u5)) H := hP
  have hD : va_D A ((b, .inr (9, [.null, .null, .null, .null, .null, .null])) :: ([] ++ LOA T u5)) := hD
  refine va_putF (D := D) (ci := 9) (v := .ref (u5 0)) (ty := .object "MoonComplaintWindow$Loader") (C := RX9) (T := TX9) (N := 6) hx hb hts i9 tyX9 tyX9_ok nmX9 hown hK hP hD hS 0 rfl rfl 0 (by decide) w7 (fun _ h9 => h9) rfl hin rfl (by decide +kernel) rfl rfl (Nat.le_of_ble_eq_true rfl) dX9_init_12 (fun H locs hP hD hS => ?_)
  have hP : va_P D vwCl ((b, .inr (9, [.ref (u5 0), .null, .null, .null, .null, .null])) :: ([] ++ LOA T u5)) H := hP
  have hD : va_D A ((b, .inr (9, [.ref (u5 0), .null, .null, .null, .null, .null])) :: ([] ++ LOA T u5)) := hD
  refine lv_aload_n hx hb dX9_init_15 rfl (lv_at hl 0 rfl) ?_
  refine va_new (ci := 3) (fs := [.int 0, .null, .null, .null]) (C := RX3) (T := TX3) (N := 4) hx hb hts i3 tyX3 tyX3_ok hown w8 w9 w10 hK hP hD hS hA rfl (fun j hj => by rcases (show j = 0 ∨ j = 1 ∨ j = 2 ∨ j = 3 by omega) with rfl | rfl | rfl | rfl <;> rfl) (Nat.le_of_ble_eq_true rfl) (Nat.le_of_ble_eq_true rfl) dX9_init_16 (fun q16 H hP hD hS => ?_)
  refine lv_dup hx hb dX9_init_19 rfl ?_
  refine wrKN (ws := (b, .inr (9, [.ref (u5 0), .null, .null, .null, .null, .null])) :: ([] ++ LOA T u5)) (rest := [.ref q16, .ref b]) ⟨hx, hb, hml, hown, hts⟩ (c_X3_init l D T q16 _) ⟨va_cnB (host := "MoonComplaintWindow") 0 hts gX9_init_X3_init_n18 rfl rfl rfl (hNX.1 (RX9, 18, yX3_init) (by decide +kernel)) w10 (by decide +kernel) ⟨Nat.le_of_ble_eq_true rfl, Nat.le_of_ble_eq_true rfl⟩, rfl, w41⟩ hNX hK hP hD hS hA hl.1 rfl (Nat.le_of_ble_eq_true rfl) ⟨Nat.le_of_ble_eq_true rfl, Nat.le_of_ble_eq_true rfl⟩ dX9_init_20 (fun u16 H locs hu hP5 hD5 hS5 => ?_)
  have hu : u16 0 = q16 := hu
  subst hu
  have hP := hP5
  have hD := hD5
  have hS := hS5
  have hP : va_P D vwCl ((b, .inr (9, [.ref (u5 0), .null, .null, .null, .null, .null])) :: (([] ++ LOA T u5) ++ OFF T u16 zO)) H := hP
  have hD : va_D A ((b, .inr (9, [.ref (u5 0), .null, .null, .null, .null, .null])) :: (([] ++ LOA T u5) ++ OFF T u16 zO)) := hD
  refine va_putF (D := D) (ci := 9) (v := .ref (u16 0)) (ty := .object "MoonComplaintWindow$Office") (C := RX9) (T := TX9) (N := 6) hx hb hts i9 tyX9 tyX9_ok nmX9 hown hK hP hD hS 0 rfl rfl 1 (by decide) w11 (fun _ h9 => h9) rfl hin rfl (by decide +kernel) rfl rfl (Nat.le_of_ble_eq_true rfl) dX9_init_23 (fun H locs hP hD hS => ?_)
  have hP : va_P D vwCl ((b, .inr (9, [.ref (u5 0), .ref (u16 0), .null, .null, .null, .null])) :: (([] ++ LOA T u5) ++ OFF T u16 zO)) H := hP
  have hD : va_D A ((b, .inr (9, [.ref (u5 0), .ref (u16 0), .null, .null, .null, .null])) :: (([] ++ LOA T u5) ++ OFF T u16 zO)) := hD
  refine lv_aload_n hx hb dX9_init_26 rfl (lv_at hl 0 rfl) ?_
  refine va_new (ci := 3) (fs := [.int 0, .null, .null, .null]) (C := RX3) (T := TX3) (N := 4) hx hb hts i3 tyX3 tyX3_ok hown w8 w9 w10 hK hP hD hS hA rfl (fun j hj => by rcases (show j = 0 ∨ j = 1 ∨ j = 2 ∨ j = 3 by omega) with rfl | rfl | rfl | rfl <;> rfl) (Nat.le_of_ble_eq_true rfl) (Nat.le_of_ble_eq_true rfl) dX9_init_27 (fun q27 H hP hD hS => ?_)
  refine lv_dup hx hb dX9_init_30 rfl ?_
  refine wrKN (ws := (b, .inr (9, [.ref (u5 0), .ref (u16 0), .null, .null, .null, .null])) :: (([] ++ LOA T u5) ++ OFF T u16 zO)) (rest := [.ref q27, .ref b]) ⟨hx, hb, hml, hown, hts⟩ (c_X3_init l D T q27 _) ⟨va_cnB (host := "MoonComplaintWindow") 0 hts gX9_init_X3_init_n18 rfl rfl rfl (hNX.1 (RX9, 18, yX3_init) (by decide +kernel)) w10 (by decide +kernel) ⟨Nat.le_of_ble_eq_true rfl, Nat.le_of_ble_eq_true rfl⟩, rfl, w41⟩ hNX hK hP hD hS hA hl.1 rfl (Nat.le_of_ble_eq_true rfl) ⟨Nat.le_of_ble_eq_true rfl, Nat.le_of_ble_eq_true rfl⟩ dX9_init_31 (fun u27 H locs hu hP5 hD5 hS5 => ?_)
  have hu : u27 0 = q27 := hu
  subst hu
  have hP := hP5
  have hD := hD5
  have hS := hS5
  have hP : va_P D vwCl ((b, .inr (9, [.ref (u5 0), .ref (u16 0), .null, .null, .null, .null])) :: ((([] ++ LOA T u5) ++ OFF T u16 zO) ++ OFF T u27 zO)) H := hP
  have hD : va_D A ((b, .inr (9, [.ref (u5 0), .ref (u16 0), .null, .null, .null, .null])) :: ((([] ++ LOA T u5) ++ OFF T u16 zO) ++ OFF T u27 zO)) := hD
  refine va_putF (D := D) (ci := 9) (v := .ref (u27 0)) (ty := .object "MoonComplaintWindow$Office") (C := RX9) (T := TX9) (N := 6) hx hb hts i9 tyX9 tyX9_ok nmX9 hown hK hP hD hS 0 rfl rfl 2 (by decide) w12 (fun _ h9 => h9) rfl hin rfl (by decide +kernel) rfl rfl (Nat.le_of_ble_eq_true rfl) dX9_init_34 (fun H locs hP hD hS => ?_)
  have hP : va_P D vwCl ((b, .inr (9, [.ref (u5 0), .ref (u16 0), .ref (u27 0), .null, .null, .null])) :: ((([] ++ LOA T u5) ++ OFF T u16 zO) ++ OFF T u27 zO)) H := hP
  have hD : va_D A ((b, .inr (9, [.ref (u5 0), .ref (u16 0), .ref (u27 0), .null, .null, .null])) :: ((([] ++ LOA T u5) ++ OFF T u16 zO) ++ OFF T u27 zO)) := hD
  refine lv_aload_n hx hb dX9_init_37 rfl (lv_at hl 0 rfl) ?_
  refine va_new (ci := 0) (fs := [.int 0, .int 0, .null]) (C := RX0) (T := TX0) (N := 3) hx hb hts i0 tyX0 tyX0_ok hown w13 w14 w15 hK hP hD hS hA rfl (fun j hj => by rcases (show j = 0 ∨ j = 1 ∨ j = 2 by omega) with rfl | rfl | rfl <;> rfl) (Nat.le_of_ble_eq_true rfl) (Nat.le_of_ble_eq_true rfl) dX9_init_38 (fun q38 H hP hD hS => ?_)
  refine lv_dup hx hb dX9_init_41 rfl ?_
  refine wrK0 (ws := (b, .inr (9, [.ref (u5 0), .ref (u16 0), .ref (u27 0), .null, .null, .null])) :: ((([] ++ LOA T u5) ++ OFF T u16 zO) ++ OFF T u27 zO)) (rest := [.ref q38, .ref b]) ⟨hx, hb, hml, hown, hts⟩ (c_X0_init l D T q38 _) (cwI 0 hts gX9_init_X0_init rfl rfl rfl w15 w75 w76 rfl (by decide +kernel) ⟨Nat.le_of_ble_eq_true rfl, Nat.le_of_ble_eq_true rfl⟩) hNX hK hP hD hS hA hl.1 rfl (Nat.le_of_ble_eq_true rfl) ⟨Nat.le_of_ble_eq_true rfl, Nat.le_of_ble_eq_true rfl⟩ dX9_init_42 (fun u38 H locs hu hP5 hD5 hS5 => ?_)
  have hu : u38.1 0 = q38 := hu
  subst hu
  have hP := hP5
  have hD := hD5
  have hS := hS5
  have hP : va_P D vwCl ((b, .inr (9, [.ref (u5 0), .ref (u16 0), .ref (u27 0), .null, .null, .null])) :: (((([] ++ LOA T u5) ++ OFF T u16 zO) ++ OFF T u27 zO) ++ HIS T u38)) H := hP
  have hD : va_D A ((b, .inr (9, [.ref (u5 0), .ref (u16 0), .ref (u27 0), .null, .null, .null])) :: (((([] ++ LOA T u5) ++ OFF T u16 zO) ++ OFF T u27 zO) ++ HIS T u38)) := hD
  refine va_putF (D := D) (ci := 9) (v := .ref (u38.1 0)) (ty := .object "MoonComplaintWindow$History") (C := RX9) (T := TX9) (N := 6) hx hb hts i9 tyX9 tyX9_ok nmX9 hown hK hP hD hS 0 rfl rfl 3 (by decide) w16 (fun _ h9 => h9) rfl hin rfl (by decide +kernel) rfl rfl (Nat.le_of_ble_eq_true rfl) dX9_init_45 (fun H locs hP hD hS => ?_)
  have hP : va_P D vwCl ((b, .inr (9, [.ref (u5 0), .ref (u16 0), .ref (u27 0), .ref (u38.1 0), .null, .null])) :: (((([] ++ LOA T u5) ++ OFF T u16 zO) ++ OFF T u27 zO) ++ HIS T u38)) H := hP
  have hD : va_D A ((b, .inr (9, [.ref (u5 0), .ref (u16 0), .ref (u27 0), .ref (u38.1 0), .null, .null])) :: (((([] ++ LOA T u5) ++ OFF T u16 zO) ++ OFF T u27 zO) ++ HIS T u38)) := hD
  refine lv_aload_n hx hb dX9_init_48 rfl (lv_at hl 0 rfl) ?_
  refine va_new (ci := 7) (fs := [.null, .null]) (C := RX7) (T := TX7) (N := 2) hx hb hts i7 tyX7 tyX7_ok hown w17 w18 w19 hK hP hD hS hA rfl (fun j hj => by rcases (show j = 0 ∨ j = 1 by omega) with rfl | rfl <;> rfl) (Nat.le_of_ble_eq_true rfl) (Nat.le_of_ble_eq_true rfl) dX9_init_49 (fun q49 H hP hD hS => ?_)
  refine lv_dup hx hb dX9_init_52 rfl ?_
  refine wrK0 (ws := (b, .inr (9, [.ref (u5 0), .ref (u16 0), .ref (u27 0), .ref (u38.1 0), .null, .null])) :: (((([] ++ LOA T u5) ++ OFF T u16 zO) ++ OFF T u27 zO) ++ HIS T u38)) (rest := [.ref q49, .ref b]) ⟨hx, hb, hml, hown, hts⟩ (c_X7_init l D T q49 _) (cwI 0 hts gX9_init_X7_init rfl rfl rfl w19 w81 w82 rfl (by decide +kernel) ⟨Nat.le_of_ble_eq_true rfl, Nat.le_of_ble_eq_true rfl⟩) hNX hK hP hD hS hA hl.1 rfl (Nat.le_of_ble_eq_true rfl) ⟨Nat.le_of_ble_eq_true rfl, Nat.le_of_ble_eq_true rfl⟩ dX9_init_53 (fun u49 H locs hu hP5 hD5 hS5 => ?_)
  have hu : u49.1 0 = q49 := hu
  subst hu
  have hP := hP5
  have hD := hD5
  have hS := hS5
  have hP : va_P D vwCl ((b, .inr (9, [.ref (u5 0), .ref (u16 0), .ref (u27 0), .ref (u38.1 0), .null, .null])) :: ((((([] ++ LOA T u5) ++ OFF T u16 zO) ++ OFF T u27 zO) ++ HIS T u38) ++ SNA T u49)) H := hP
  have hD : va_D A ((b, .inr (9, [.ref (u5 0), .ref (u16 0), .ref (u27 0), .ref (u38.1 0), .null, .null])) :: ((((([] ++ LOA T u5) ++ OFF T u16 zO) ++ OFF T u27 zO) ++ HIS T u38) ++ SNA T u49)) := hD
  refine va_putF (D := D) (ci := 9) (v := .ref (u49.1 0)) (ty := .object "MoonComplaintWindow$Snapshots") (C := RX9) (T := TX9) (N := 6) hx hb hts i9 tyX9 tyX9_ok nmX9 hown hK hP hD hS 0 rfl rfl 4 (by decide) w20 (fun _ h9 => h9) rfl hin rfl (by decide +kernel) rfl rfl (Nat.le_of_ble_eq_true rfl) dX9_init_56 (fun H locs hP hD hS => ?_)
  have hP : va_P D vwCl ((b, .inr (9, [.ref (u5 0), .ref (u16 0), .ref (u27 0), .ref (u38.1 0), .ref (u49.1 0), .null])) :: ((((([] ++ LOA T u5) ++ OFF T u16 zO) ++ OFF T u27 zO) ++ HIS T u38) ++ SNA T u49)) H := hP
  have hD : va_D A ((b, .inr (9, [.ref (u5 0), .ref (u16 0), .ref (u27 0), .ref (u38.1 0), .ref (u49.1 0), .null])) :: ((((([] ++ LOA T u5) ++ OFF T u16 zO) ++ OFF T u27 zO) ++ HIS T u38) ++ SNA T u49)) := hD
  refine lv_aload_n hx hb dX9_init_59 rfl (lv_at hl 0 rfl) ?_
  refine va_new (ci := 4) (fs := [.int 0, .null]) (C := RX4) (T := TX4) (N := 2) hx hb hts i4 tyX4 tyX4_ok hown w21 w22 w23 hK hP hD hS hA rfl (fun j hj => by rcases (show j = 0 ∨ j = 1 by omega) with rfl | rfl <;> rfl) (Nat.le_of_ble_eq_true rfl) (Nat.le_of_ble_eq_true rfl) dX9_init_60 (fun q60 H hP hD hS => ?_)
  refine lv_dup hx hb dX9_init_63 rfl ?_
  refine wrKN (ws := (b, .inr (9, [.ref (u5 0), .ref (u16 0), .ref (u27 0), .ref (u38.1 0), .ref (u49.1 0), .null])) :: ((((([] ++ LOA T u5) ++ OFF T u16 zO) ++ OFF T u27 zO) ++ HIS T u38) ++ SNA T u49)) (rest := [.ref q60, .ref b]) ⟨hx, hb, hml, hown, hts⟩ (c_X4_init l D T q60 _) ⟨va_cnB (host := "MoonComplaintWindow") 0 hts gX9_init_X4_init_n42 rfl rfl rfl (hNX.1 (RX9, 42, yX4_init) (by decide +kernel)) w23 (by decide +kernel) ⟨Nat.le_of_ble_eq_true rfl, Nat.le_of_ble_eq_true rfl⟩, rfl, w89⟩ hNX hK hP hD hS hA hl.1 rfl (Nat.le_of_ble_eq_true rfl) ⟨Nat.le_of_ble_eq_true rfl, Nat.le_of_ble_eq_true rfl⟩ dX9_init_64 (fun u60 H locs hu hP5 hD5 hS5 => ?_)
  have hu : u60 0 = q60 := hu
  subst hu
  have hP := hP5
  have hD := hD5
  have hS := hS5
  have hP : va_P D vwCl ((b, .inr (9, [.ref (u5 0), .ref (u16 0), .ref (u27 0), .ref (u38.1 0), .ref (u49.1 0), .null])) :: (((((([] ++ LOA T u5) ++ OFF T u16 zO) ++ OFF T u27 zO) ++ HIS T u38) ++ SNA T u49) ++ PAG T u60)) H := hP
  have hD : va_D A ((b, .inr (9, [.ref (u5 0), .ref (u16 0), .ref (u27 0), .ref (u38.1 0), .ref (u49.1 0), .null])) :: (((((([] ++ LOA T u5) ++ OFF T u16 zO) ++ OFF T u27 zO) ++ HIS T u38) ++ SNA T u49) ++ PAG T u60)) := hD
  refine va_putF (D := D) (ci := 9) (v := .ref (u60 0)) (ty := .object "MoonComplaintWindow$Page") (C := RX9) (T := TX9) (N := 6) hx hb hts i9 tyX9 tyX9_ok nmX9 hown hK hP hD hS 0 rfl rfl 5 (by decide) w24 (fun _ h9 => h9) rfl hin rfl (by decide +kernel) rfl rfl (Nat.le_of_ble_eq_true rfl) dX9_init_67 (fun H locs hP hD hS => ?_)
  have hP : va_P D vwCl ((b, .inr (9, [.ref (u5 0), .ref (u16 0), .ref (u27 0), .ref (u38.1 0), .ref (u49.1 0), .ref (u60 0)])) :: (((((([] ++ LOA T u5) ++ OFF T u16 zO) ++ OFF T u27 zO) ++ HIS T u38) ++ SNA T u49) ++ PAG T u60)) H := hP
  have hD : va_D A ((b, .inr (9, [.ref (u5 0), .ref (u16 0), .ref (u27 0), .ref (u38.1 0), .ref (u49.1 0), .ref (u60 0)])) :: (((((([] ++ LOA T u5) ++ OFF T u16 zO) ++ OFF T u27 zO) ++ HIS T u38) ++ SNA T u49) ++ PAG T u60)) := hD
  have hP : va_P D vwCl (MADE T b u5 u16 u27 u38 u49 u60) H := hP
  have hD : va_D A (MADE T b u5 u16 u27 u38 u49 u60) := hD
  have hP := MADE_P hP
  have hD := MADE_D hD
  generalize hv : vOf b u5 u38.1 u49.1 u60 = v at hP hD
  generalize hB : BOf u5 u16 u27 u38.2 u49.2 = B at hP hD
  have hv0 : v 0 = b := by rw [← hv]; rfl
  refine W.widen (k := 192) (n := 3465) (Nat.le_of_ble_eq_true rfl) (Nat.le_of_ble_eq_true rfl) ?_
  have hret : ∀ (H : Heap) (locs : List Loc) (ls : Array Slot) (pc : Nat), decode cX9_init pc = .ok (.return_, 1) → va_P D vwCl (WIN T v B O0C g0C 0 0 0 0 (txL 124) (fun _ => 0) (fun _ => 0)) H → va_D A (WIN T v B O0C g0C 0 0 0 0 (txL 124) (fun _ => 0) (fun _ => 0)) → va_S A s.heap H locs → W p l e ({ frames := 9, cells := 192, slots := 3465, locals := 195 } : Room) s m args below meth c H locs 192 3465 Q (F0 m pc ls []) := fun H locs ls pc hd hP hD hS => hret (v, B) H locs ls pc hv0 hd hP hD hS
  rw [← hv0] at hl
  have hgo0 : gOK 0 gZ := ⟨Nat.le_refl _, Nat.le_refl _⟩
  refine lv_iconst (v := 0) hx hb dX9_init_70 (by decide) ?_
  refine lv_istore_n (lv' := [(1, .int (0)), (0, .ref (v 0))]) hx hb dX9_init_71 rfl hl (by decide) rfl (fun ls hl => ?_)
  have L72 : ∀ (n9 : Nat) (i : Nat), (124 - i) < n9 → (i ≤ 124) → ∀ (H : Heap) (locs : List Loc) (ls : Array Slot), va_P D vwCl (WIN T v B zOO gZ i 0 0 0 ((txL i)) ((fun _ => 0)) ((fun _ => 0))) H → va_D A (WIN T v B zOO gZ i 0 0 0 ((txL i)) ((fun _ => 0)) ((fun _ => 0))) → va_S A s.heap H locs → lv_has ls 2 [(1, .int (nI i)), (0, .ref (v 0))] → W p l e ({ frames := 9, cells := 192, slots := 3465, locals := 195 } : Room) s m args below meth c H locs 192 3465 Q (F0 m 72 ls []) := by
    intro n9
    induction n9 with
    | zero => intro i hm9; exact absurd hm9 (Nat.not_lt_zero _)
    | succ n9 ih =>
      intro i hm9 hi9 H locs ls hP hD hS hl
      refine lv_iload_n hx hb dX9_init_72 rfl (lv_at hl 0 rfl) ?_
      refine va_ldcS hx hb hown (show vk_R RX9 47 "moon 8 2 6;clouds 0 3 9;clerk 3 20;clerk 7 5;complaint 4 glare 5;complaint 4 gloom 2;complaint 9 tide 6;complaint 30 face 9;" (aK 0) s from hC.2.1 0 (by decide)) dX9_init_73 ?_
      refine rdBV (C := RJ0) (As := []) (rest := [.int (nI i)]) (STF.bl (aK 0) (aV 0) (litN 0) (litF 0) nA) ⟨hx, hb, hml, hown, hts⟩ (c_J0_length_8abf5 l (aK 0) (aV 0) (litN 0) (litF 0)) (cwV 0 hts gX9_init_J0_length_8abf5 rfl rfl rfl (by decide +kernel) ⟨Nat.le_of_ble_eq_true rfl, Nat.le_of_ble_eq_true rfl⟩) (fun U hU hv => STF.str hC hS (by decide) hU hv) (STF.recv hC hS (by decide)) rfl hl.1 rfl (Nat.le_of_ble_eq_true rfl) ⟨Nat.le_of_ble_eq_true rfl, Nat.le_of_ble_eq_true rfl⟩ dX9_init_75 ?_
      refine lv_icmp_ge (tgt := 103) hx hb dX9_init_78 (by decide) (fun c78 => ?_) (fun c78 => ?_)
      ·
        have c78 : (litN 0) ≤ i := (nI_leI (a := (litN 0)) (b := i) (by first | omega | decide | (rw [litN0]; decide)) (by first | omega | decide | (rw [litN0]; decide))).mp c78
        have hi0 : i = 124 := by rw [litN0] at c78; omega
        rw [hi0] at hP hD
        have hP : va_P D vwCl (WIN T v B zOO gZ 124 0 0 0 ((txL 124)) ((fun _ => 0)) ((fun _ => 0))) H := hP
        have hD : va_D A (WIN T v B zOO gZ 124 0 0 0 ((txL 124)) ((fun _ => 0)) ((fun _ => 0))) := hD
        refine lv_aload_n hx hb dX9_init_103 rfl (lv_at hl 1 rfl) ?_
        refine va_get (D := D) (ci := 9) (v := .ref (v 1)) (C := RX9) (T := TX9) (N := 6) hx hb hts i9 hown hK hP 0 rfl rfl 0 (by decide) w7 (fun _ h9 => h9) rfl dX9_init_104 ?_
        refine wcVv (As := []) (rest := []) ⟨hx, hb, hml, hown, hts⟩ (c_X2_read l D T aK aV v B zOO gZ 124 0 0 0 ((txL 124)) ((fun _ => 0)) ((fun _ => 0)) (by decide) txL_by _) (cwV 0 hts gX9_init_X2_read rfl rfl rfl (by decide +kernel) ⟨Nat.le_of_ble_eq_true rfl, Nat.le_of_ble_eq_true rfl⟩) (Foc.rfl _ _) hC hK hP hD hS hA 1 rfl rfl rfl hl.1 rfl (Nat.le_of_ble_eq_true rfl) ⟨Nat.le_of_ble_eq_true rfl, Nat.le_of_ble_eq_true rfl⟩ dX9_init_107 (fun H locs hP hD hS => ?_)
        have hP : va_P D vwCl (WIN T v B (va_up zOO 2 ((rd4 ((txL 124)) 124 (zOO 2, gZ)).2.1)) (rd5 ((txL 124)) 124 (zOO 2, gZ)) 0 0 0 0 (txL 124) (fun _ => 0) (fun _ => 0)) H := hP
        have hD : va_D A (WIN T v B (va_up zOO 2 ((rd4 ((txL 124)) 124 (zOO 2, gZ)).2.1)) (rd5 ((txL 124)) 124 (zOO 2, gZ)) 0 0 0 0 (txL 124) (fun _ => 0) (fun _ => 0)) := hD
        rw [show (rd4 (txL 124) 124 (zOO 2, gZ)).2.1 = d0C from rfl, show rd5 (txL 124) 124 (zOO 2, gZ) = g0C from rfl] at hP hD
        have hP : va_P D vwCl (WIN T v B (va_up zOO 2 d0C) g0C 0 0 0 0 (txL 124) ((fun _ => 0)) ((fun _ => 0))) H := hP
        have hD : va_D A (WIN T v B (va_up zOO 2 d0C) g0C 0 0 0 0 (txL 124) ((fun _ => 0)) ((fun _ => 0))) := hD
        refine lv_aload_n hx hb dX9_init_110 rfl (lv_at hl 1 rfl) ?_
        refine va_get (D := D) (ci := 9) (v := .ref ((B 0) 0)) (C := RX9) (T := TX9) (N := 6) hx hb hts i9 hown hK hP 0 rfl rfl 1 (by decide) w11 (fun _ h9 => h9) rfl dX9_init_111 ?_
        refine lv_aload_n hx hb dX9_init_114 rfl (lv_at hl 1 rfl) ?_
        refine va_get (D := D) (ci := 9) (v := .ref (v 1)) (C := RX9) (T := TX9) (N := 6) hx hb hts i9 hown hK hP 0 rfl rfl 0 (by decide) w7 (fun _ h9 => h9) rfl dX9_init_115 ?_
        refine va_get (D := D) (ci := 2) (v := .ref ((B 2) 0)) (C := RX2) (T := TX2) (N := 4) hx hb hts i2 hown hK hP 1 rfl rfl 3 (by decide) w26 (fun _ h9 => h9) rfl dX9_init_118 ?_
        refine wrVv (As := [.ref ((B 2) 0)]) (rest := []) ⟨hx, hb, hml, hown, hts⟩ (c_X3_copyFrom l D T (B 0) (zOO 0) (B 2) d0C _) (cwV 1 hts gX9_init_X3_copyFrom rfl rfl rfl (by decide +kernel) ⟨Nat.le_of_ble_eq_true rfl, Nat.le_of_ble_eq_true rfl⟩) (WIN_off2 (i := 0) (j := 2) (by decide) (by decide) (by decide) d0C) hK hP hD hS hA 0 rfl rfl rfl hl.1 rfl (Nat.le_of_ble_eq_true rfl) ⟨Nat.le_of_ble_eq_true rfl, Nat.le_of_ble_eq_true rfl⟩ dX9_init_121 (fun H locs hP hD hS => ?_)
        have hP : va_P D vwCl (WIN T v B (va_up (va_up zOO 2 d0C) 0 d0C) g0C 0 0 0 0 (txL 124) ((fun _ => 0)) ((fun _ => 0))) H := hP
        have hD : va_D A (WIN T v B (va_up (va_up zOO 2 d0C) 0 d0C) g0C 0 0 0 0 (txL 124) ((fun _ => 0)) ((fun _ => 0))) := hD
        have hE : (WIN T v B (va_up (va_up zOO 2 d0C) 0 d0C) g0C 0 0 0 0 (txL 124) ((fun _ => 0)) ((fun _ => 0)) : va_W) = (WIN T v B O0C g0C 0 0 0 0 (txL 124) (fun _ => 0) (fun _ => 0)) := by rfl
        exact hret _ _ _ _ dX9_init_124 (by rw [← hE]; exact hP) (by rw [← hE]; exact hD) hS
      ·
        have c78 : ¬ (litN 0) ≤ i := fun h9 => c78 ((nI_leI (a := (litN 0)) (b := i) (by first | omega | decide | (rw [litN0]; decide)) (by first | omega | decide | (rw [litN0]; decide))).mpr h9)
        have c78 : i < 124 := by rw [litN0] at c78; omega
        refine lv_aload_n hx hb dX9_init_81 rfl (lv_at hl 1 rfl) ?_
        refine va_get (D := D) (ci := 9) (v := .ref (v 1)) (C := RX9) (T := TX9) (N := 6) hx hb hts i9 hown hK hP 0 rfl rfl 0 (by decide) w7 (fun _ h9 => h9) rfl dX9_init_82 ?_
        refine va_get (D := D) (ci := 2) (v := .ref (v 2)) (C := RX2) (T := TX2) (N := 4) hx hb hts i2 hown hK hP 1 rfl rfl 2 (by decide) w25 (fun _ h9 => h9) rfl dX9_init_85 ?_
        refine va_ldcS hx hb hown (show vk_R RX9 47 "moon 8 2 6;clouds 0 3 9;clerk 3 20;clerk 7 5;complaint 4 glare 5;complaint 4 gloom 2;complaint 9 tide 6;complaint 30 face 9;" (aK 0) s from hC.2.1 0 (by decide)) dX9_init_88 ?_
        refine lv_iload_n hx hb dX9_init_90 rfl (lv_at hl 0 rfl) ?_
        refine rdBV (C := RJ0) (As := [.int (nI i)]) (rest := [.ref (v 2)]) (STF.bl (aK 0) (aV 0) (litN 0) (litF 0) nA) ⟨hx, hb, hml, hown, hts⟩ (c_J0_charAt_5068e l (aK 0) (aV 0) (litN 0) (litF 0) i (by omega) (by have := (lit_ok 0 (by decide)).1; omega) ((lit_ok 0 (by decide)).2 i (by omega))) (cwV 1 hts gX9_init_J0_charAt_5068e rfl rfl rfl (by decide +kernel) ⟨Nat.le_of_ble_eq_true rfl, Nat.le_of_ble_eq_true rfl⟩) (fun U hU hv => STF.str hC hS (by decide) hU hv) (STF.recv hC hS (by decide)) rfl hl.1 rfl (Nat.le_of_ble_eq_true rfl) ⟨Nat.le_of_ble_eq_true rfl, Nat.le_of_ble_eq_true rfl⟩ dX9_init_91 ?_
        refine wrVv (As := [.int (litF 0 i)]) (rest := []) ⟨hx, hb, hml, hown, hts⟩ (c_X1_put l D T v B zOO gZ i 0 0 0 ((txL i)) ((fun _ => 0)) ((fun _ => 0)) (litF 0 i) (by omega) _) (cwV 1 hts gX9_init_X1_put rfl rfl rfl (by decide +kernel) ⟨Nat.le_of_ble_eq_true rfl, Nat.le_of_ble_eq_true rfl⟩) (Foc.rfl _ _) hK hP hD hS hA 2 rfl rfl rfl hl.1 rfl (Nat.le_of_ble_eq_true rfl) ⟨Nat.le_of_ble_eq_true rfl, Nat.le_of_ble_eq_true rfl⟩ dX9_init_94 (fun H locs hP hD hS => ?_)
        have hP : va_P D vwCl (WIN T v B zOO gZ (i + 1) 0 0 0 (va_up ((txL i)) i ((litF 0 i) &&& 255)) (fun _ => 0) (fun _ => 0)) H := hP
        have hD : va_D A (WIN T v B zOO gZ (i + 1) 0 0 0 (va_up ((txL i)) i ((litF 0 i) &&& 255)) (fun _ => 0) (fun _ => 0)) := hD
        rw [← txL_up] at hP hD
        have hP : va_P D vwCl (WIN T v B zOO gZ (i + 1) 0 0 0 (txL (i + 1)) ((fun _ => 0)) ((fun _ => 0))) H := hP
        have hD : va_D A (WIN T v B zOO gZ (i + 1) 0 0 0 (txL (i + 1)) ((fun _ => 0)) ((fun _ => 0))) := hD
        refine lv_iinc (v := nI (i + 1)) (lv' := [(1, .int (nI (i + 1))), (0, .ref (v 0))]) hx hb dX9_init_97 hl (k := 0) rfl (nI_1 _) (by decide) rfl (fun ls hl => ?_)
        refine lv_goto (tgt := 72) hx hb dX9_init_100 (by decide) ?_
        exact ih (i + 1) (by omega) (by omega) _ _ _ hP hD hS (lv_sub hl [0, 1] rfl)
  exact L72 _ 0 (Nat.lt_succ_self _) (by omega) _ _ _ hP hD hS (lv_sub hl [0, 1] rfl)
