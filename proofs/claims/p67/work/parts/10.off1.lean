set_option maxHeartbeats 4000000 in
set_option maxRecDepth 100000 in
theorem c_X6_lightIn (l : Launch) (D : va_G) (T : Nat → ClassId)  (k : Nat) (hk : k < 2 ^ 31) : Met l yX6_lightIn wsX6_lightIn ({ frames := 1, cells := 0, slots := 0, locals := 21 } : Room) (va_Pc [.int (nI k)] (fun _ => True)) (QcRead (nI (lightN k))) 0 0 (fun _ => False) := by
  refine metT (cc := cX6_lightIn) (maxL := 1) (ty := .int) (by decide) rfl (by rfl) (Nat.le_of_ble_eq_true rfl) ?_
  intro p e s m args below meth c Q ls hx hb hml hown hts hl hret
  have hown : s.vm.findClass RX6 = some m.cls := hown
  have hl : lv_has ls 1 [(0, .int (nI k))] := hl
  have w1 := hts (Cond.methodLink RX6 15 Lib.Math.abs.name) (List.mem_of_getElem? (i := 1) rfl)
  have w2 := hts (Cond.static Lib.Math.abs.name) (List.mem_of_getElem? (i := 2) rfl)
  have w3 := hts (Cond.initialized "java/lang/Math") (List.mem_of_getElem? (i := 3) rfl)
  have w4 := hts (Cond.code Lib.Math.abs.name Lib.Math.abs.code 1 (some .int)) (List.mem_of_getElem? (i := 4) rfl)
  refine lv_bipush (v := 14) hx hb dX6_lightIn_0 (by decide) ?_
  refine lv_bipush (v := 14) hx hb dX6_lightIn_2 (by decide) ?_
  refine lv_iload_n hx hb dX6_lightIn_4 rfl (lv_at hl 0 rfl) ?_
  refine lv_bipush (v := 28) hx hb dX6_lightIn_5 (by decide) ?_
  refine lv_irem hx hb dX6_lightIn_7 (by decide) ?_
  refine lv_isub hx hb dX6_lightIn_8 ?_
  refine va_mabs hx hb (hml.trans hl.1.symm) hown w1 w2 w3 w4 (by decide) (Nat.le_of_ble_eq_true rfl) (Nat.zero_le _) (Nat.zero_le _) dX6_lightIn_9 ?_
  refine lv_isub hx hb dX6_lightIn_12 ?_
  refine endI (r := nI (lightN k)) (by exact light_abs k hk) ?_
  exact hret ls _ dX6_lightIn_13

set_option maxHeartbeats 4000000 in
set_option maxRecDepth 100000 in
theorem c_X6_tideIn (l : Launch) (D : va_G) (T : Nat → ClassId)  (k : Nat) (hk : k < 2 ^ 31) : Met l yX6_tideIn wsX6_tideIn ({ frames := 1, cells := 0, slots := 0, locals := 21 } : Room) (va_Pc [.int (nI k)] (fun _ => True)) (QcRead (nI (tideN k))) 0 0 (fun _ => False) := by
  refine metT (cc := cX6_tideIn) (maxL := 1) (ty := .int) (by decide) rfl (by rfl) (Nat.le_of_ble_eq_true rfl) ?_
  intro p e s m args below meth c Q ls hx hb hml hown hts hl hret
  have hown : s.vm.findClass RX6 = some m.cls := hown
  have hl : lv_has ls 1 [(0, .int (nI k))] := hl
  have w1 := hts (Cond.methodLink RX6 15 Lib.Math.abs.name) (List.mem_of_getElem? (i := 1) rfl)
  have w2 := hts (Cond.static Lib.Math.abs.name) (List.mem_of_getElem? (i := 2) rfl)
  have w3 := hts (Cond.initialized "java/lang/Math") (List.mem_of_getElem? (i := 3) rfl)
  have w4 := hts (Cond.code Lib.Math.abs.name Lib.Math.abs.code 1 (some .int)) (List.mem_of_getElem? (i := 4) rfl)
  refine lv_bipush (v := 7) hx hb dX6_tideIn_0 (by decide) ?_
  refine lv_iload_n hx hb dX6_tideIn_2 rfl (lv_at hl 0 rfl) ?_
  refine lv_bipush (v := 28) hx hb dX6_tideIn_3 (by decide) ?_
  refine lv_irem hx hb dX6_tideIn_5 (by decide) ?_
  refine endI (r := nI (k % 28)) (rem28 hk) ?_
  refine lv_bipush (v := 14) hx hb dX6_tideIn_6 (by decide) ?_
  refine lv_irem hx hb dX6_tideIn_8 (by decide) ?_
  refine endI (r := nI (k % 28 % 14)) (rem14 (by omega)) ?_
  refine lv_isub hx hb dX6_tideIn_9 ?_
  refine va_mabs hx hb (hml.trans hl.1.symm) hown w1 w2 w3 w4 (by decide) (Nat.le_of_ble_eq_true rfl) (Nat.zero_le _) (Nat.zero_le _) dX6_tideIn_10 ?_
  refine endI (r := nI (tideN k)) (by exact tide_abs k hk) ?_
  exact hret ls _ dX6_tideIn_13

set_option maxHeartbeats 4000000 in
set_option maxRecDepth 100000 in
theorem c_X6_hasCloud (l : Launch) (D : va_G) (T : Nat → ClassId) (a : Nat → Nat) (o : Nat → Nat → Int32) (z : Int32) : Met l yX6_hasCloud wsX6_hasCloud ({ frames := 0, cells := 0, slots := 0, locals := 0 } : Room) (va_Pc [.ref (a 1), .int (z)] (PR D T (OFF T a o))) (QcRead (bI (decide (0 ≤ z) && decide (z < o 0 4)))) 0 0 (fun _ => False) := by
  refine metR (cc := cX6_hasCloud) (maxL := 2) (ty := .boolean) (by decide) rfl (by exact bI_nb _) (Nat.le_of_ble_eq_true rfl) ?_
  intro p e s m args below meth c Q ls hx hb hml hown hts hP hK hl hret
  have hown : s.vm.findClass RX6 = some m.cls := hown
  have hl : lv_has ls 2 [(0, .ref (a 1)), (1, .int (z))] := hl
  have i6 : ∀ w ∈ wsX60, w ∈ wsX6_hasCloud := by decide +kernel
  have w1 := hts (Cond.fieldLink RX6 21 "MoonComplaintWindow$Sky" "total" "I") (List.mem_of_getElem? (i := 1) rfl)
  refine lv_iload_n hx hb dX6_hasCloud_0 rfl (lv_at hl 1 rfl) ?_
  refine lv_if_lt (tgt := 16) hx hb dX6_hasCloud_1 (by decide) (fun c1 => ?_) (fun c1 => ?_)
  ·
    refine lv_iconst (v := 0) hx hb dX6_hasCloud_16 (by decide) ?_
    refine endI (r := bI (decide (0 ≤ z) && decide (z < o 0 4))) (by (first | have c1x := Int32.not_lt.mp c1 | have c1x := Int32.not_le.mp c1 | have c1x := Int32.not_lt.mpr c1 | have c1x := Int32.not_le.mpr c1 | have c1x := c1); simp [bI, c1, c1x]) ?_
    exact hret ls _ dX6_hasCloud_17
  ·
    refine lv_iload_n hx hb dX6_hasCloud_4 rfl (lv_at hl 1 rfl) ?_
    refine lv_aload_n hx hb dX6_hasCloud_5 rfl (lv_at hl 0 rfl) ?_
    refine va_get (D := D) (ci := 6) (v := .int (o 0 4)) (C := RX6) (T := TX6) (N := 5) hx hb hts i6 hown hK hP 1 rfl rfl 3 (by decide) w1 (fun _ h9 => h9) rfl dX6_hasCloud_6 ?_
    refine lv_icmp_ge (tgt := 16) hx hb dX6_hasCloud_9 (by decide) (fun c9 => ?_) (fun c9 => ?_)
    ·
      refine lv_iconst (v := 0) hx hb dX6_hasCloud_16 (by decide) ?_
      refine endI (r := bI (decide (0 ≤ z) && decide (z < o 0 4))) (by (first | have c1x := Int32.not_lt.mp c1 | have c1x := Int32.not_le.mp c1 | have c1x := Int32.not_lt.mpr c1 | have c1x := Int32.not_le.mpr c1 | have c1x := c1); (first | have c9x := Int32.not_lt.mp c9 | have c9x := Int32.not_le.mp c9 | have c9x := Int32.not_lt.mpr c9 | have c9x := Int32.not_le.mpr c9 | have c9x := c9); simp [bI, c1, c9, c1x, c9x]) ?_
      exact hret ls _ dX6_hasCloud_17
    ·
      refine lv_iconst (v := 1) hx hb dX6_hasCloud_12 (by decide) ?_
      refine lv_goto (tgt := 17) hx hb dX6_hasCloud_13 (by decide) ?_
      refine endI (r := bI (decide (0 ≤ z) && decide (z < o 0 4))) (by (first | have c1x := Int32.not_lt.mp c1 | have c1x := Int32.not_le.mp c1 | have c1x := Int32.not_lt.mpr c1 | have c1x := Int32.not_le.mpr c1 | have c1x := c1); (first | have c9x := Int32.not_lt.mp c9 | have c9x := Int32.not_le.mp c9 | have c9x := Int32.not_lt.mpr c9 | have c9x := Int32.not_le.mpr c9 | have c9x := c9); simp [bI, c1, c9, c1x, c9x]) ?_
      exact hret ls _ dX6_hasCloud_17

set_option maxHeartbeats 4000000 in
set_option maxRecDepth 100000 in
theorem c_X6_cloudIn (l : Launch) (D : va_G) (T : Nat → ClassId) (a : Nat → Nat) (o : Nat → Nat → Int32) (k : Nat) (C : Nat) (hC : o 0 4 = nI C) (hC1 : 0 < C) (hC2 : C ≤ 10) (hk : k < 2 ^ 20) : Met l yX6_cloudIn wsX6_cloudIn ({ frames := 0, cells := 0, slots := 0, locals := 0 } : Room) (va_Pc [.ref (a 1), .int (nI k)] (PR D T (OFF T a o))) (QcRead (o 1 (k % C))) 0 0 (fun _ => False) := by
  refine metR (cc := cX6_cloudIn) (maxL := 2) (ty := .int) (by decide) rfl (by rfl) (Nat.le_of_ble_eq_true rfl) ?_
  intro p e s m args below meth c Q ls hx hb hml hown hts hP hK hl hret
  have hown : s.vm.findClass RX6 = some m.cls := hown
  have hl : lv_has ls 2 [(0, .ref (a 1)), (1, .int (nI k))] := hl
  have i6 : ∀ w ∈ wsX60, w ∈ wsX6_cloudIn := by decide +kernel
  have w1 := hts (Cond.fieldLink RX6 21 "MoonComplaintWindow$Sky" "total" "I") (List.mem_of_getElem? (i := 1) rfl)
  have w2 := hts (Cond.fieldLink RX6 9 "MoonComplaintWindow$Sky" "clouds" "[I") (List.mem_of_getElem? (i := 2) rfl)
  refine lv_aload_n hx hb dX6_cloudIn_0 rfl (lv_at hl 0 rfl) ?_
  refine va_get (D := D) (ci := 6) (v := .int (o 0 4)) (C := RX6) (T := TX6) (N := 5) hx hb hts i6 hown hK hP 1 rfl rfl 3 (by decide) w1 (fun _ h9 => h9) rfl dX6_cloudIn_1 ?_
  refine endI (r := nI C) (hC) ?_
  refine lv_if_le (tgt := 25) hx hb dX6_cloudIn_4 (by decide) (fun c4 => ?_) (fun c4 => ?_)
  ·
    have c4 : C ≤ 0 := (nI_leI (a := C) (b := 0) (by omega) (by omega)).mp c4
    exact absurd c4 (by omega)
  ·
    have c4 : ¬ C ≤ 0 := fun h9 => c4 ((nI_leI (a := C) (b := 0) (by omega) (by omega)).mpr h9)
    refine lv_iload_n hx hb dX6_cloudIn_7 rfl (lv_at hl 1 rfl) ?_
    refine lv_if_lt (tgt := 25) hx hb dX6_cloudIn_8 (by decide) (fun c8 => ?_) (fun c8 => ?_)
    ·
      have c8 : k < 0 := (nI_ltI (a := k) (b := 0) (by omega) (by omega)).mp c8
      exact absurd c8 (by omega)
    ·
      have c8 : ¬ k < 0 := fun h9 => c8 ((nI_ltI (a := k) (b := 0) (by omega) (by omega)).mpr h9)
      refine lv_aload_n hx hb dX6_cloudIn_11 rfl (lv_at hl 0 rfl) ?_
      refine va_get (D := D) (ci := 6) (v := .ref (a 2)) (C := RX6) (T := TX6) (N := 5) hx hb hts i6 hown hK hP 1 rfl rfl 4 (by decide) w2 (fun _ h9 => h9) rfl dX6_cloudIn_12 ?_
      refine lv_iload_n hx hb dX6_cloudIn_15 rfl (lv_at hl 1 rfl) ?_
      refine lv_aload_n hx hb dX6_cloudIn_16 rfl (lv_at hl 0 rfl) ?_
      refine va_get (D := D) (ci := 6) (v := .int (o 0 4)) (C := RX6) (T := TX6) (N := 5) hx hb hts i6 hown hK hP 1 rfl rfl 3 (by decide) w1 (fun _ h9 => h9) rfl dX6_cloudIn_17 ?_
      refine endI (r := nI C) (hC) ?_
      refine lv_irem hx hb dX6_cloudIn_20 (nI_ne0 hC1 (by omega)) ?_
      refine endI (r := nI (k % C)) (pk_rem (by omega) hC1 (by omega)) ?_
      refine aldI hx hb hK hP 2 0 rfl rfl (k % C) rfl (by exact Nat.lt_of_lt_of_le (Nat.mod_lt _ hC1) hC2) (by decide) dX6_cloudIn_21 ?_
      refine lv_goto (tgt := 26) hx hb dX6_cloudIn_22 (by decide) ?_
      refine endI (r := o 1 (k % C)) (by first | rfl | (simp [*]; done)) ?_
      exact hret ls _ dX6_cloudIn_26

set_option maxHeartbeats 4000000 in
set_option maxRecDepth 100000 in
theorem c_X6_visibleIn (l : Launch) (D : va_G) (T : Nat → ClassId) (a : Nat → Nat) (o : Nat → Nat → Int32) (k : Nat) (C : Nat) (hC : o 0 4 = nI C) (hC1 : 0 < C) (hC2 : C ≤ 10) (hk : k < 2 ^ 20) : Met l yX6_visibleIn wsX6_visibleIn ({ frames := 2, cells := 0, slots := 0, locals := 41 } : Room) (va_Pc [.ref (a 1), .int (nI k)] (PR D T (OFF T a o))) (QcRead (visI k (o 1 (k % C)))) 0 0 (fun _ => False) := by
  refine metR (cc := cX6_visibleIn) (maxL := 2) (ty := .int) (by decide) rfl (by rfl) (Nat.le_of_ble_eq_true rfl) ?_
  intro p e s m args below meth c Q ls hx hb hml hown hts hP hK hl hret
  have hown : s.vm.findClass RX6 = some m.cls := hown
  have hl : lv_has ls 2 [(0, .ref (a 1)), (1, .int (nI k))] := hl
  refine lv_iload_n hx hb dX6_visibleIn_0 rfl (lv_at hl 1 rfl) ?_
  refine rdT (As := [.int (nI k)]) (rest := []) ⟨hx, hb, hml, hown, hts⟩ (c_X6_lightIn l D T k (by first | omega | assumption | decide)) (va_cwS 1 hts gX6_visibleIn_X6_lightIn rfl rfl rfl (by decide +kernel) ⟨Nat.le_of_ble_eq_true rfl, Nat.le_of_ble_eq_true rfl⟩) rfl hl.1 rfl (Nat.le_of_ble_eq_true rfl) ⟨Nat.zero_le _, Nat.zero_le _⟩ dX6_visibleIn_1 ?_
  refine lv_bipush (v := 10) hx hb dX6_visibleIn_4 (by decide) ?_
  refine lv_aload_n hx hb dX6_visibleIn_6 rfl (lv_at hl 0 rfl) ?_
  refine lv_iload_n hx hb dX6_visibleIn_7 rfl (lv_at hl 1 rfl) ?_
  refine rdV (As := [.int (nI k)]) (rest := [.int (10), .int (nI (lightN k))]) ⟨hx, hb, hml, hown, hts⟩ (c_X6_cloudIn l D T a o k C (by first | omega | assumption | decide) (by first | omega | assumption | decide) (by first | omega | assumption | decide) (by first | omega | assumption | decide)) (cwV 1 hts gX6_visibleIn_X6_cloudIn rfl rfl rfl (by decide +kernel) ⟨Nat.le_of_ble_eq_true rfl, Nat.le_of_ble_eq_true rfl⟩) hK hP 1 rfl rfl rfl hl.1 rfl (Nat.le_of_ble_eq_true rfl) ⟨Nat.zero_le _, Nat.zero_le _⟩ dX6_visibleIn_8 ?_
  refine lv_isub hx hb dX6_visibleIn_11 ?_
  refine lv_imul hx hb dX6_visibleIn_12 ?_
  refine lv_bipush (v := 10) hx hb dX6_visibleIn_13 (by decide) ?_
  refine lv_idiv hx hb dX6_visibleIn_15 (by decide) ?_
  refine endI (r := visI k (o 1 (k % C))) (by first | rfl | (simp [*]; done)) ?_
  exact hret ls _ dX6_visibleIn_16

set_option maxHeartbeats 4000000 in
set_option maxRecDepth 100000 in
theorem c_X6_costIn (l : Launch) (D : va_G) (T : Nat → ClassId) (a : Nat → Nat) (o : Nat → Nat → Int32) (k : Nat) (C : Nat) (hC : o 0 4 = nI C) (hC1 : 0 < C) (hC2 : C ≤ 10) (hk : k < 2 ^ 20) : Met l yX6_costIn wsX6_costIn ({ frames := 3, cells := 0, slots := 0, locals := 62 } : Room) (va_Pc [.ref (a 1), .int (nI k)] (PR D T (OFF T a o))) (QcRead (6 - visI k (o 1 (k % C)) / 3)) 0 0 (fun _ => False) := by
  refine metR (cc := cX6_costIn) (maxL := 2) (ty := .int) (by decide) rfl (by rfl) (Nat.le_of_ble_eq_true rfl) ?_
  intro p e s m args below meth c Q ls hx hb hml hown hts hP hK hl hret
  have hown : s.vm.findClass RX6 = some m.cls := hown
  have hl : lv_has ls 2 [(0, .ref (a 1)), (1, .int (nI k))] := hl
  refine lv_bipush (v := 6) hx hb dX6_costIn_0 (by decide) ?_
  refine lv_aload_n hx hb dX6_costIn_2 rfl (lv_at hl 0 rfl) ?_
  refine lv_iload_n hx hb dX6_costIn_3 rfl (lv_at hl 1 rfl) ?_
  refine rdV (As := [.int (nI k)]) (rest := [.int (6)]) ⟨hx, hb, hml, hown, hts⟩ (c_X6_visibleIn l D T a o k C (by first | omega | assumption | decide) (by first | omega | assumption | decide) (by first | omega | assumption | decide) (by first | omega | assumption | decide)) (cwV 1 hts gX6_costIn_X6_visibleIn rfl rfl rfl (by decide +kernel) ⟨Nat.le_of_ble_eq_true rfl, Nat.le_of_ble_eq_true rfl⟩) hK hP 1 rfl rfl rfl hl.1 rfl (Nat.le_of_ble_eq_true rfl) ⟨Nat.zero_le _, Nat.zero_le _⟩ dX6_costIn_4 ?_
  refine lv_iconst (v := 3) hx hb dX6_costIn_7 (by decide) ?_
  refine lv_idiv hx hb dX6_costIn_8 (by decide) ?_
  refine lv_isub hx hb dX6_costIn_9 ?_
  refine endI (r := 6 - visI k (o 1 (k % C)) / 3) (by first | rfl | (simp [*]; done)) ?_
  exact hret ls _ dX6_costIn_10

set_option maxHeartbeats 4000000 in
set_option maxRecDepth 100000 in
theorem c_X6_justifies (l : Launch) (D : va_G) (T : Nat → ClassId) (a : Nat → Nat) (o : Nat → Nat → Int32) (q : Nat) (k : Nat) (C : Nat) (hC : o 0 4 = nI C) (hC1 : 0 < C) (hC2 : C ≤ 10) (hk : k < 2 ^ 20) (hq : q < 4) : Met l yX6_justifies wsX6_justifies ({ frames := 3, cells := 0, slots := 0, locals := 62 } : Room) (va_Pc [.ref (a 1), .int (nI q), .int (nI k)] (PR D T (OFF T a o))) (QcRead (bI (justB q (o 0 1) (o 0 2) (o 0 3) k (o 1 (k % C))))) 0 0 (fun _ => False) := by
  refine metR (cc := cX6_justifies) (maxL := 3) (ty := .boolean) (by decide) rfl (by exact bI_nb _) (Nat.le_of_ble_eq_true rfl) ?_
  intro p e s m args below meth c Q ls hx hb hml hown hts hP hK hl hret
  have hown : s.vm.findClass RX6 = some m.cls := hown
  have hl : lv_has ls 3 [(0, .ref (a 1)), (1, .int (nI q)), (2, .int (nI k))] := hl
  have i6 : ∀ w ∈ wsX60, w ∈ wsX6_justifies := by decide +kernel
  have w1 := hts (Cond.fieldLink RX6 34 "MoonComplaintWindow$Sky" "glareLimit" "I") (List.mem_of_getElem? (i := 1) rfl)
  have w2 := hts (Cond.fieldLink RX6 37 "MoonComplaintWindow$Sky" "gloomLimit" "I") (List.mem_of_getElem? (i := 2) rfl)
  have w3 := hts (Cond.fieldLink RX6 43 "MoonComplaintWindow$Sky" "tideLimit" "I") (List.mem_of_getElem? (i := 3) rfl)
  refine lv_iload_n hx hb dX6_justifies_0 rfl (lv_at hl 1 rfl) ?_
  obtain rfl | rfl | rfl | rfl : q = 0 ∨ q = 1 ∨ q = 2 ∨ q = 3 := by omega
  ·
    refine lv_tableIn (off := 27) (tgt := 28) hx hb dX6_justifies_1 (by decide) (by decide) (by decide) (by decide) ?_
    refine lv_aload_n hx hb dX6_justifies_28 rfl (lv_at hl 0 rfl) ?_
    refine lv_iload_n hx hb dX6_justifies_29 rfl (lv_at hl 2 rfl) ?_
    refine rdV (As := [.int (nI k)]) (rest := []) ⟨hx, hb, hml, hown, hts⟩ (c_X6_visibleIn l D T a o k C (by first | omega | assumption | decide) (by first | omega | assumption | decide) (by first | omega | assumption | decide) (by first | omega | assumption | decide)) (cwV 1 hts gX6_justifies_X6_visibleIn rfl rfl rfl (by decide +kernel) ⟨Nat.le_of_ble_eq_true rfl, Nat.le_of_ble_eq_true rfl⟩) hK hP 1 rfl rfl rfl hl.1 rfl (Nat.le_of_ble_eq_true rfl) ⟨Nat.zero_le _, Nat.zero_le _⟩ dX6_justifies_30 ?_
    refine lv_aload_n hx hb dX6_justifies_33 rfl (lv_at hl 0 rfl) ?_
    refine va_get (D := D) (ci := 6) (v := .int (o 0 1)) (C := RX6) (T := TX6) (N := 5) hx hb hts i6 hown hK hP 1 rfl rfl 0 (by decide) w1 (fun _ h9 => h9) rfl dX6_justifies_34 ?_
    refine lv_icmp_lt (tgt := 44) hx hb dX6_justifies_37 (by decide) (fun c37 => ?_) (fun c37 => ?_)
    ·
      refine lv_iconst (v := 0) hx hb dX6_justifies_44 (by decide) ?_
      refine endI (r := bI (justB 0 (o 0 1) (o 0 2) (o 0 3) k (o 1 (k % C)))) (by (first | have c37x := Int32.not_lt.mp c37 | have c37x := Int32.not_le.mp c37 | have c37x := Int32.not_lt.mpr c37 | have c37x := Int32.not_le.mpr c37 | have c37x := c37); simp [bI, justB, c37, c37x]) ?_
      exact hret ls _ dX6_justifies_45
    ·
      refine lv_iconst (v := 1) hx hb dX6_justifies_40 (by decide) ?_
      refine lv_goto (tgt := 45) hx hb dX6_justifies_41 (by decide) ?_
      refine endI (r := bI (justB 0 (o 0 1) (o 0 2) (o 0 3) k (o 1 (k % C)))) (by (first | have c37x := Int32.not_lt.mp c37 | have c37x := Int32.not_le.mp c37 | have c37x := Int32.not_lt.mpr c37 | have c37x := Int32.not_le.mpr c37 | have c37x := c37); simp [bI, justB, c37, c37x]) ?_
      exact hret ls _ dX6_justifies_45
  ·
    refine lv_tableIn (off := 45) (tgt := 46) hx hb dX6_justifies_1 (by decide) (by decide) (by decide) (by decide) ?_
    refine lv_aload_n hx hb dX6_justifies_46 rfl (lv_at hl 0 rfl) ?_
    refine lv_iload_n hx hb dX6_justifies_47 rfl (lv_at hl 2 rfl) ?_
    refine rdV (As := [.int (nI k)]) (rest := []) ⟨hx, hb, hml, hown, hts⟩ (c_X6_visibleIn l D T a o k C (by first | omega | assumption | decide) (by first | omega | assumption | decide) (by first | omega | assumption | decide) (by first | omega | assumption | decide)) (cwV 1 hts gX6_justifies_X6_visibleIn rfl rfl rfl (by decide +kernel) ⟨Nat.le_of_ble_eq_true rfl, Nat.le_of_ble_eq_true rfl⟩) hK hP 1 rfl rfl rfl hl.1 rfl (Nat.le_of_ble_eq_true rfl) ⟨Nat.zero_le _, Nat.zero_le _⟩ dX6_justifies_48 ?_
    refine lv_aload_n hx hb dX6_justifies_51 rfl (lv_at hl 0 rfl) ?_
    refine va_get (D := D) (ci := 6) (v := .int (o 0 2)) (C := RX6) (T := TX6) (N := 5) hx hb hts i6 hown hK hP 1 rfl rfl 1 (by decide) w2 (fun _ h9 => h9) rfl dX6_justifies_52 ?_
    refine lv_icmp_gt (tgt := 62) hx hb dX6_justifies_55 (by decide) (fun c55 => ?_) (fun c55 => ?_)
    ·
      refine lv_iconst (v := 0) hx hb dX6_justifies_62 (by decide) ?_
      refine endI (r := bI (justB 1 (o 0 1) (o 0 2) (o 0 3) k (o 1 (k % C)))) (by (first | have c55x := Int32.not_lt.mp c55 | have c55x := Int32.not_le.mp c55 | have c55x := Int32.not_lt.mpr c55 | have c55x := Int32.not_le.mpr c55 | have c55x := c55); simp [bI, justB, c55, c55x]) ?_
      exact hret ls _ dX6_justifies_63
    ·
      refine lv_iconst (v := 1) hx hb dX6_justifies_58 (by decide) ?_
      refine lv_goto (tgt := 63) hx hb dX6_justifies_59 (by decide) ?_
      refine endI (r := bI (justB 1 (o 0 1) (o 0 2) (o 0 3) k (o 1 (k % C)))) (by (first | have c55x := Int32.not_lt.mp c55 | have c55x := Int32.not_le.mp c55 | have c55x := Int32.not_lt.mpr c55 | have c55x := Int32.not_le.mpr c55 | have c55x := c55); simp [bI, justB, c55, c55x]) ?_
      exact hret ls _ dX6_justifies_63
  ·
    refine lv_tableIn (off := 63) (tgt := 64) hx hb dX6_justifies_1 (by decide) (by decide) (by decide) (by decide) ?_
    refine lv_iload_n hx hb dX6_justifies_64 rfl (lv_at hl 2 rfl) ?_
    refine rdT (As := [.int (nI k)]) (rest := []) ⟨hx, hb, hml, hown, hts⟩ (c_X6_tideIn l D T k (by first | omega | assumption | decide)) (va_cwS 1 hts gX6_justifies_X6_tideIn rfl rfl rfl (by decide +kernel) ⟨Nat.le_of_ble_eq_true rfl, Nat.le_of_ble_eq_true rfl⟩) rfl hl.1 rfl (Nat.le_of_ble_eq_true rfl) ⟨Nat.zero_le _, Nat.zero_le _⟩ dX6_justifies_65 ?_
    refine lv_aload_n hx hb dX6_justifies_68 rfl (lv_at hl 0 rfl) ?_
    refine va_get (D := D) (ci := 6) (v := .int (o 0 3)) (C := RX6) (T := TX6) (N := 5) hx hb hts i6 hown hK hP 1 rfl rfl 2 (by decide) w3 (fun _ h9 => h9) rfl dX6_justifies_69 ?_
    refine lv_icmp_lt (tgt := 79) hx hb dX6_justifies_72 (by decide) (fun c72 => ?_) (fun c72 => ?_)
    ·
      refine lv_iconst (v := 0) hx hb dX6_justifies_79 (by decide) ?_
      refine endI (r := bI (justB 2 (o 0 1) (o 0 2) (o 0 3) k (o 1 (k % C)))) (by (first | have c72x := Int32.not_lt.mp c72 | have c72x := Int32.not_le.mp c72 | have c72x := Int32.not_lt.mpr c72 | have c72x := Int32.not_le.mpr c72 | have c72x := c72); simp [bI, justB, c72, c72x]) ?_
      exact hret ls _ dX6_justifies_80
    ·
      refine lv_iconst (v := 1) hx hb dX6_justifies_75 (by decide) ?_
      refine lv_goto (tgt := 80) hx hb dX6_justifies_76 (by decide) ?_
      refine endI (r := bI (justB 2 (o 0 1) (o 0 2) (o 0 3) k (o 1 (k % C)))) (by (first | have c72x := Int32.not_lt.mp c72 | have c72x := Int32.not_le.mp c72 | have c72x := Int32.not_lt.mpr c72 | have c72x := Int32.not_le.mpr c72 | have c72x := c72); simp [bI, justB, c72, c72x]) ?_
      exact hret ls _ dX6_justifies_80
  ·
    refine lv_tableOut (tgt := 81) hx hb dX6_justifies_1 (by decide) (by decide) ?_
    refine lv_iload_n hx hb dX6_justifies_81 rfl (lv_at hl 2 rfl) ?_
    refine rdT (As := [.int (nI k)]) (rest := []) ⟨hx, hb, hml, hown, hts⟩ (c_X6_lightIn l D T k (by first | omega | assumption | decide)) (va_cwS 1 hts gX6_justifies_X6_lightIn rfl rfl rfl (by decide +kernel) ⟨Nat.le_of_ble_eq_true rfl, Nat.le_of_ble_eq_true rfl⟩) rfl hl.1 rfl (Nat.le_of_ble_eq_true rfl) ⟨Nat.zero_le _, Nat.zero_le _⟩ dX6_justifies_82 ?_
    refine lv_iconst (v := 4) hx hb dX6_justifies_85 (by decide) ?_
    refine lv_icmp_lt (tgt := 102) hx hb dX6_justifies_86 (by decide) (fun c86 => ?_) (fun c86 => ?_)
    ·
      refine lv_iconst (v := 0) hx hb dX6_justifies_102 (by decide) ?_
      refine endI (r := bI (justB 3 (o 0 1) (o 0 2) (o 0 3) k (o 1 (k % C)))) (by (first | have c86x := Int32.not_lt.mp c86 | have c86x := Int32.not_le.mp c86 | have c86x := Int32.not_lt.mpr c86 | have c86x := Int32.not_le.mpr c86 | have c86x := c86); simp [bI, justB, c86, c86x]) ?_
      exact hret ls _ dX6_justifies_103
    ·
      refine lv_aload_n hx hb dX6_justifies_89 rfl (lv_at hl 0 rfl) ?_
      refine lv_iload_n hx hb dX6_justifies_90 rfl (lv_at hl 2 rfl) ?_
      refine rdV (As := [.int (nI k)]) (rest := []) ⟨hx, hb, hml, hown, hts⟩ (c_X6_cloudIn l D T a o k C (by first | omega | assumption | decide) (by first | omega | assumption | decide) (by first | omega | assumption | decide) (by first | omega | assumption | decide)) (cwV 1 hts gX6_justifies_X6_cloudIn rfl rfl rfl (by decide +kernel) ⟨Nat.le_of_ble_eq_true rfl, Nat.le_of_ble_eq_true rfl⟩) hK hP 1 rfl rfl rfl hl.1 rfl (Nat.le_of_ble_eq_true rfl) ⟨Nat.zero_le _, Nat.zero_le _⟩ dX6_justifies_91 ?_
      refine lv_iconst (v := 2) hx hb dX6_justifies_94 (by decide) ?_
      refine lv_icmp_gt (tgt := 102) hx hb dX6_justifies_95 (by decide) (fun c95 => ?_) (fun c95 => ?_)
      ·
        refine lv_iconst (v := 0) hx hb dX6_justifies_102 (by decide) ?_
        refine endI (r := bI (justB 3 (o 0 1) (o 0 2) (o 0 3) k (o 1 (k % C)))) (by (first | have c86x := Int32.not_lt.mp c86 | have c86x := Int32.not_le.mp c86 | have c86x := Int32.not_lt.mpr c86 | have c86x := Int32.not_le.mpr c86 | have c86x := c86); (first | have c95x := Int32.not_lt.mp c95 | have c95x := Int32.not_le.mp c95 | have c95x := Int32.not_lt.mpr c95 | have c95x := Int32.not_le.mpr c95 | have c95x := c95); simp [bI, justB, c86, c95, c86x, c95x]) ?_
        exact hret ls _ dX6_justifies_103
      ·
        refine lv_iconst (v := 1) hx hb dX6_justifies_98 (by decide) ?_
        refine lv_goto (tgt := 103) hx hb dX6_justifies_99 (by decide) ?_
        refine endI (r := bI (justB 3 (o 0 1) (o 0 2) (o 0 3) k (o 1 (k % C)))) (by (first | have c86x := Int32.not_lt.mp c86 | have c86x := Int32.not_le.mp c86 | have c86x := Int32.not_lt.mpr c86 | have c86x := Int32.not_le.mpr c86 | have c86x := c86); (first | have c95x := Int32.not_lt.mp c95 | have c95x := Int32.not_le.mp c95 | have c95x := Int32.not_lt.mpr c95 | have c95x := Int32.not_le.mpr c95 | have c95x := c95); simp [bI, justB, c86, c95, c86x, c95x]) ?_
        exact hret ls _ dX6_justifies_103

set_option maxHeartbeats 4000000 in
set_option maxRecDepth 100000 in
theorem c_X6_justifiedSorts (l : Launch) (D : va_G) (T : Nat → ClassId) (a : Nat → Nat) (o : Nat → Nat → Int32) (k : Nat) (C : Nat) (hC : o 0 4 = nI C) (hC1 : 0 < C) (hC2 : C ≤ 10) (hk : k < 2 ^ 20) : Met l yX6_justifiedSorts wsX6_justifiedSorts ({ frames := 4, cells := 0, slots := 0, locals := 84 } : Room) (va_Pc [.ref (a 1), .int (nI k)] (PR D T (OFF T a o))) (QcRead (maskI (fun q => justB q (o 0 1) (o 0 2) (o 0 3) k (o 1 (k % C))) 4 0 0)) 0 0 (fun _ => False) := by
  refine metR (cc := cX6_justifiedSorts) (maxL := 4) (ty := .int) (by decide) rfl (by rfl) (Nat.le_of_ble_eq_true rfl) ?_
  intro p e s m args below meth c Q ls hx hb hml hown hts hP hK hl hret
  have hown : s.vm.findClass RX6 = some m.cls := hown
  have hl : lv_has ls 4 [(0, .ref (a 1)), (1, .int (nI k))] := hl
  refine lv_iconst (v := 0) hx hb dX6_justifiedSorts_0 (by decide) ?_
  refine lv_istore_n (lv' := [(2, .int (0)), (0, .ref (a 1)), (1, .int (nI k))]) hx hb dX6_justifiedSorts_1 rfl hl (by decide) rfl (fun ls hl => ?_)
  refine lv_iconst (v := 0) hx hb dX6_justifiedSorts_2 (by decide) ?_
  refine lv_istore_n (lv' := [(3, .int (0)), (2, .int (0)), (0, .ref (a 1)), (1, .int (nI k))]) hx hb dX6_justifiedSorts_3 rfl hl (by decide) rfl (fun ls hl => ?_)
  have L4 : ∀ (n9 : Nat) (k9 : Nat) (x : Int32), (4 - k9) < n9 → (k9 ≤ 4) → (maskI (fun q => justB q (o 0 1) (o 0 2) (o 0 3) k (o 1 (k % C))) (4 - k9) k9 x = maskI (fun q => justB q (o 0 1) (o 0 2) (o 0 3) k (o 1 (k % C))) 4 0 0) → ∀ (ls : Array Slot), lv_has ls 4 [(3, .int (nI k9)), (2, .int (x)), (0, .ref (a 1)), (1, .int (nI k))] → W p l e ({ frames := 4, cells := 0, slots := 0, locals := 84 } : Room) s m args below meth c s.heap [] 0 0 Q (F0 m 4 ls []) := by
    intro n9
    induction n9 with
    | zero => intro k9 x hm9; exact absurd hm9 (Nat.not_lt_zero _)
    | succ n9 ih =>
      intro k9 x hm9 hk9 hR ls hl
      refine lv_iload_n hx hb dX6_justifiedSorts_4 rfl (lv_at hl 0 rfl) ?_
      refine lv_iconst (v := 3) hx hb dX6_justifiedSorts_5 (by decide) ?_
      refine lv_icmp_gt (tgt := 30) hx hb dX6_justifiedSorts_6 (by decide) (fun c6 => ?_) (fun c6 => ?_)
      ·
        have c6 : 3 < k9 := (nI_ltI (a := 3) (b := k9) (by omega) (by omega)).mp c6
        refine lv_iload_n hx hb dX6_justifiedSorts_30 rfl (lv_at hl 1 rfl) ?_
        refine endI (r := maskI (fun q => justB q (o 0 1) (o 0 2) (o 0 3) k (o 1 (k % C))) 4 0 0) (by rw [maskI_done (by omega)] at hR; exact hR) ?_
        exact hret ls _ dX6_justifiedSorts_31
      ·
        have c6 : ¬ 3 < k9 := fun h9 => c6 ((nI_ltI (a := 3) (b := k9) (by omega) (by omega)).mpr h9)
        refine lv_aload_n hx hb dX6_justifiedSorts_9 rfl (lv_at hl 2 rfl) ?_
        refine lv_iload_n hx hb dX6_justifiedSorts_10 rfl (lv_at hl 0 rfl) ?_
        refine lv_iload_n hx hb dX6_justifiedSorts_11 rfl (lv_at hl 3 rfl) ?_
        refine rdV (As := [.int (nI k9), .int (nI k)]) (rest := []) ⟨hx, hb, hml, hown, hts⟩ (c_X6_justifies l D T a o k9 k C (by first | omega | assumption | decide) (by first | omega | assumption | decide) (by first | omega | assumption | decide) (by first | omega | assumption | decide) (by first | omega | assumption | decide)) (cwV 2 hts gX6_justifiedSorts_X6_justifies rfl rfl rfl (by decide +kernel) ⟨Nat.le_of_ble_eq_true rfl, Nat.le_of_ble_eq_true rfl⟩) hK hP 1 rfl rfl rfl hl.1 rfl (Nat.le_of_ble_eq_true rfl) ⟨Nat.zero_le _, Nat.zero_le _⟩ dX6_justifiedSorts_12 ?_
        refine lv_if_eq (tgt := 24) hx hb dX6_justifiedSorts_15 (by decide) (fun c15 => ?_) (fun c15 => ?_)
        ·
          have c15 := bI_0.mp c15
          refine lv_iinc (v := nI (k9 + 1)) (lv' := [(3, .int (nI (k9 + 1))), (2, .int (x)), (0, .ref (a 1)), (1, .int (nI k))]) hx hb dX6_justifiedSorts_24 hl (k := 0) rfl (nI_1 _) (by decide) rfl (fun ls hl => ?_)
          refine lv_goto (tgt := 4) hx hb dX6_justifiedSorts_27 (by decide) ?_
          exact ih (k9 + 1) x (by omega) (by omega) (by rw [maskI_step (by omega)] at hR; simpa [c6, c15] using hR) _ (lv_sub hl [0, 1, 2, 3] rfl)
        ·
          have c15 := bI_n0.mp c15
          refine lv_iload_n hx hb dX6_justifiedSorts_18 rfl (lv_at hl 1 rfl) ?_
          refine lv_iconst (v := 1) hx hb dX6_justifiedSorts_19 (by decide) ?_
          refine lv_iload_n hx hb dX6_justifiedSorts_20 rfl (lv_at hl 0 rfl) ?_
          refine lv_ishl hx hb dX6_justifiedSorts_21 ?_
          refine lv_ior hx hb dX6_justifiedSorts_22 ?_
          refine lv_istore_n (lv' := [(2, .int (x ||| (1 <<< ((nI k9) &&& 31)))), (3, .int (nI k9)), (0, .ref (a 1)), (1, .int (nI k))]) hx hb dX6_justifiedSorts_23 rfl hl (by decide) rfl (fun ls hl => ?_)
          refine lv_iinc (v := nI (k9 + 1)) (lv' := [(3, .int (nI (k9 + 1))), (2, .int (x ||| (1 <<< ((nI k9) &&& 31)))), (0, .ref (a 1)), (1, .int (nI k))]) hx hb dX6_justifiedSorts_24 hl (k := 1) rfl (nI_1 _) (by decide) rfl (fun ls hl => ?_)
          refine lv_goto (tgt := 4) hx hb dX6_justifiedSorts_27 (by decide) ?_
          exact ih (k9 + 1) (x ||| (1 <<< ((nI k9) &&& 31))) (by omega) (by omega) (by rw [maskI_step (by omega)] at hR; simpa [c6, c15] using hR) _ (lv_sub hl [0, 1, 2, 3] rfl)
  exact L4 _ 0 0 (Nat.lt_succ_self _) (by omega) (by first | rfl | (simp; done)) _ (lv_sub hl [0, 1, 2, 3] rfl)

set_option maxHeartbeats 4000000 in
set_option maxRecDepth 100000 in
theorem c_X6_countJustified (l : Launch) (D : va_G) (T : Nat → ClassId) (a : Nat → Nat) (o : Nat → Nat → Int32) (q : Nat) (k : Nat) (C : Nat) (hC : o 0 4 = nI C) (hC1 : 0 < C) (hC2 : C ≤ 10) (hk : k < 2 ^ 19) (hq : q < 4) : Met l yX6_countJustified wsX6_countJustified ({ frames := 4, cells := 0, slots := 0, locals := 84 } : Room) (va_Pc [.ref (a 1), .int (nI q), .int (nI k)] (PR D T (OFF T a o))) (QcRead (cntI (fun j => justB q (o 0 1) (o 0 2) (o 0 3) j (o 1 (j % C))) (k + 28 - k) k 0)) 0 0 (fun _ => False) := by
  refine metR (cc := cX6_countJustified) (maxL := 5) (ty := .int) (by decide) rfl (by rfl) (Nat.le_of_ble_eq_true rfl) ?_
  intro p e s m args below meth c Q ls hx hb hml hown hts hP hK hl hret
  have hown : s.vm.findClass RX6 = some m.cls := hown
  have hl : lv_has ls 5 [(0, .ref (a 1)), (1, .int (nI q)), (2, .int (nI k))] := hl
  refine lv_iconst (v := 0) hx hb dX6_countJustified_0 (by decide) ?_
  refine lv_istore_n (lv' := [(3, .int (0)), (0, .ref (a 1)), (1, .int (nI q)), (2, .int (nI k))]) hx hb dX6_countJustified_1 rfl hl (by decide) rfl (fun ls hl => ?_)
  refine lv_iload_n hx hb dX6_countJustified_2 rfl (lv_at hl 3 rfl) ?_
  refine lv_istore (lv' := [(4, .int (nI k)), (3, .int (0)), (0, .ref (a 1)), (1, .int (nI q)), (2, .int (nI k))]) hx hb dX6_countJustified_3 hl (by decide) rfl (fun ls hl => ?_)
  have L5 : ∀ (n9 : Nat) (k9 : Nat) (x : Int32), (k + 28 - k9) < n9 → (k9 ≤ k + 28) → (cntI (fun j => justB q (o 0 1) (o 0 2) (o 0 3) j (o 1 (j % C))) (k + 28 - k9) k9 x = cntI (fun j => justB q (o 0 1) (o 0 2) (o 0 3) j (o 1 (j % C))) (k + 28 - k) k 0) → (k ≤ k9) → ∀ (ls : Array Slot), lv_has ls 5 [(4, .int (nI k9)), (3, .int (x)), (0, .ref (a 1)), (1, .int (nI q)), (2, .int (nI k))] → W p l e ({ frames := 4, cells := 0, slots := 0, locals := 84 } : Room) s m args below meth c s.heap [] 0 0 Q (F0 m 5 ls []) := by
    intro n9
    induction n9 with
    | zero => intro k9 x hm9; exact absurd hm9 (Nat.not_lt_zero _)
    | succ n9 ih =>
      intro k9 x hm9 hk9 hR hk0 ls hl
      refine lv_iload hx hb dX6_countJustified_5 (lv_at hl 0 rfl) ?_
      refine lv_iload_n hx hb dX6_countJustified_7 rfl (lv_at hl 4 rfl) ?_
      refine lv_bipush (v := 28) hx hb dX6_countJustified_8 (by decide) ?_
      refine lv_iadd hx hb dX6_countJustified_10 ?_
      refine endI (r := nI (k + 28)) (nI_add _ _) ?_
      refine lv_icmp_ge (tgt := 33) hx hb dX6_countJustified_11 (by decide) (fun c11 => ?_) (fun c11 => ?_)
      ·
        have c11 : (k + 28) ≤ k9 := (nI_leI (a := (k + 28)) (b := k9) (by omega) (by omega)).mp c11
        refine lv_iload_n hx hb dX6_countJustified_33 rfl (lv_at hl 1 rfl) ?_
        refine endI (r := cntI (fun j => justB q (o 0 1) (o 0 2) (o 0 3) j (o 1 (j % C))) (k + 28 - k) k 0) (by rw [cntI_done (by omega)] at hR; exact hR) ?_
        exact hret ls _ dX6_countJustified_34
      ·
        have c11 : ¬ (k + 28) ≤ k9 := fun h9 => c11 ((nI_leI (a := (k + 28)) (b := k9) (by omega) (by omega)).mpr h9)
        refine lv_aload_n hx hb dX6_countJustified_14 rfl (lv_at hl 2 rfl) ?_
        refine lv_iload_n hx hb dX6_countJustified_15 rfl (lv_at hl 3 rfl) ?_
        refine lv_iload hx hb dX6_countJustified_16 (lv_at hl 0 rfl) ?_
        refine rdV (As := [.int (nI q), .int (nI k9)]) (rest := []) ⟨hx, hb, hml, hown, hts⟩ (c_X6_justifies l D T a o q k9 C (by first | omega | assumption | decide) (by first | omega | assumption | decide) (by first | omega | assumption | decide) (by first | omega | assumption | decide) (by first | omega | assumption | decide)) (cwV 2 hts gX6_countJustified_X6_justifies rfl rfl rfl (by decide +kernel) ⟨Nat.le_of_ble_eq_true rfl, Nat.le_of_ble_eq_true rfl⟩) hK hP 1 rfl rfl rfl hl.1 rfl (Nat.le_of_ble_eq_true rfl) ⟨Nat.zero_le _, Nat.zero_le _⟩ dX6_countJustified_18 ?_
        refine lv_if_eq (tgt := 27) hx hb dX6_countJustified_21 (by decide) (fun c21 => ?_) (fun c21 => ?_)
        ·
          have c21 := bI_0.mp c21
          refine lv_iinc (v := nI (k9 + 1)) (lv' := [(4, .int (nI (k9 + 1))), (3, .int (x)), (0, .ref (a 1)), (1, .int (nI q)), (2, .int (nI k))]) hx hb dX6_countJustified_27 hl (k := 0) rfl (nI_1 _) (by decide) rfl (fun ls hl => ?_)
          refine lv_goto (tgt := 5) hx hb dX6_countJustified_30 (by decide) ?_
          exact ih (k9 + 1) x (by omega) (by omega) (by rw [cntI_step (by omega)] at hR; simpa [c11, c21] using hR) (by first | assumption | omega) _ (lv_sub hl [0, 1, 2, 3, 4] rfl)
        ·
          have c21 := bI_n0.mp c21
          refine lv_iinc (v := x + 1) (lv' := [(3, .int (x + 1)), (4, .int (nI k9)), (0, .ref (a 1)), (1, .int (nI q)), (2, .int (nI k))]) hx hb dX6_countJustified_24 hl (k := 1) rfl rfl (by decide) rfl (fun ls hl => ?_)
          refine lv_iinc (v := nI (k9 + 1)) (lv' := [(4, .int (nI (k9 + 1))), (3, .int (x + 1)), (0, .ref (a 1)), (1, .int (nI q)), (2, .int (nI k))]) hx hb dX6_countJustified_27 hl (k := 1) rfl (nI_1 _) (by decide) rfl (fun ls hl => ?_)
          refine lv_goto (tgt := 5) hx hb dX6_countJustified_30 (by decide) ?_
          exact ih (k9 + 1) (x + 1) (by omega) (by omega) (by rw [cntI_step (by omega)] at hR; simpa [c11, c21] using hR) (by first | assumption | omega) _ (lv_sub hl [0, 1, 2, 3, 4] rfl)
  exact L5 _ k 0 (Nat.lt_succ_self _) (by omega) (by first | rfl | (simp; done)) (by first | assumption | omega | (intros; contradiction)) _ (lv_sub hl [0, 1, 2, 3, 4] rfl)

set_option maxHeartbeats 4000000 in
set_option maxRecDepth 100000 in
theorem c_X6_addCloud (l : Launch) (D : va_G) (T : Nat → ClassId) (a : Nat → Nat) (o : Nat → Nat → Int32) (z : Int32) (C : Nat) (hC : o 0 4 = nI C) (hC2 : C < 10) (sz : Nat) : Met l yX6_addCloud wsX6_addCloud ({ frames := 0, cells := 0, slots := 0, locals := 0 } : Room) (va_Pc [.ref (a 1), .int (z)] (PS D T (OFF T a o) sz)) (va_Qv (fun (_ : Unit) => True) (fun _ t => QS D T (va_A (OFF T a o) sz) (OFF T a (va_up (va_up o 0 (va_up (o 0) 4 (nI (C + 1)))) 1 (va_up (o 1) C z))) t) (va_A (OFF T a o) sz)) 0 0 (va_A (OFF T a o) sz) := by
  refine metSv (cc := cX6_addCloud) (maxL := 2) (by decide) rfl (Nat.le_of_ble_eq_true rfl) ?_
  intro p e s m args below meth c Q ls A hx hb hml hown hts hP hK hD hA hS hl hret
  have hown : s.vm.findClass RX6 = some m.cls := hown
  have hl : lv_has ls 2 [(0, .ref (a 1)), (1, .int (z))] := hl
  have i6 : ∀ w ∈ wsX60, w ∈ wsX6_addCloud := by decide +kernel
  have w1 := hts (Cond.fieldLink RX6 21 "MoonComplaintWindow$Sky" "total" "I") (List.mem_of_getElem? (i := 1) rfl)
  have w2 := hts (Cond.fieldLink RX6 9 "MoonComplaintWindow$Sky" "clouds" "[I") (List.mem_of_getElem? (i := 2) rfl)
  refine lv_aload_n hx hb dX6_addCloud_0 rfl (lv_at hl 0 rfl) ?_
  refine va_get (D := D) (ci := 6) (v := .int (o 0 4)) (C := RX6) (T := TX6) (N := 5) hx hb hts i6 hown hK hP 1 rfl rfl 3 (by decide) w1 (fun _ h9 => h9) rfl dX6_addCloud_1 ?_
  refine endI (r := nI C) (hC) ?_
  refine lv_bipush (v := 10) hx hb dX6_addCloud_4 (by decide) ?_
  refine lv_icmp_ge (tgt := 29) hx hb dX6_addCloud_6 (by decide) (fun c6 => ?_) (fun c6 => ?_)
  ·
    have c6 : 10 ≤ C := (nI_leI (a := 10) (b := C) (by omega) (by omega)).mp c6
    exact absurd c6 (by omega)
  ·
    have c6 : ¬ 10 ≤ C := fun h9 => c6 ((nI_leI (a := 10) (b := C) (by omega) (by omega)).mpr h9)
    refine lv_aload_n hx hb dX6_addCloud_9 rfl (lv_at hl 0 rfl) ?_
    refine va_get (D := D) (ci := 6) (v := .ref (a 2)) (C := RX6) (T := TX6) (N := 5) hx hb hts i6 hown hK hP 1 rfl rfl 4 (by decide) w2 (fun _ h9 => h9) rfl dX6_addCloud_10 ?_
    refine lv_aload_n hx hb dX6_addCloud_13 rfl (lv_at hl 0 rfl) ?_
    refine va_get (D := D) (ci := 6) (v := .int (o 0 4)) (C := RX6) (T := TX6) (N := 5) hx hb hts i6 hown hK hP 1 rfl rfl 3 (by decide) w1 (fun _ h9 => h9) rfl dX6_addCloud_14 ?_
    refine endI (r := nI C) (hC) ?_
    refine lv_iload_n hx hb dX6_addCloud_17 rfl (lv_at hl 1 rfl) ?_
    refine astI hx hb hK hP hD hS 2 0 rfl rfl (C) rfl (by omega) (by decide) dX6_addCloud_18 (fun H locs hP hD hS => ?_)
    have hP : va_P D vwCl (OFF T a ((va_up o 1 (va_up (o 1) C z)))) H := hP
    have hD : va_D A (OFF T a ((va_up o 1 (va_up (o 1) C z)))) := hD
    refine lv_aload_n hx hb dX6_addCloud_19 rfl (lv_at hl 0 rfl) ?_
    refine lv_dup hx hb dX6_addCloud_20 rfl ?_
    refine va_get (D := D) (ci := 6) (v := .int (o 0 4)) (C := RX6) (T := TX6) (N := 5) hx hb hts i6 hown hK hP 1 rfl rfl 3 (by decide) w1 (fun _ h9 => h9) rfl dX6_addCloud_21 ?_
    refine endI (r := nI C) (hC) ?_
    refine lv_iconst (v := 1) hx hb dX6_addCloud_24 (by decide) ?_
    refine lv_iadd hx hb dX6_addCloud_25 ?_
    refine endI (r := nI (C + 1)) (nI_add _ _) ?_
    refine va_put (D := D) (ci := 6) (v := .int (nI (C + 1))) (ty := .int) (C := RX6) (T := TX6) (N := 5) hx hb hts i6 tyX6 tyX6_ok nmX6 hown hK hP hD hS 1 rfl rfl 3 (by decide) w1 (fun _ h9 => h9) rfl (by decide +kernel) rfl rfl (Nat.le_of_ble_eq_true rfl) dX6_addCloud_26 (fun H locs hP hD hS => ?_)
    have hP : va_P D vwCl (OFF T a ((va_up ((va_up o 0 (va_up (o 0) 4 (nI (C + 1))))) 1 (va_up (o 1) C z)))) H := hP
    have hD : va_D A (OFF T a ((va_up ((va_up o 0 (va_up (o 0) 4 (nI (C + 1))))) 1 (va_up (o 1) C z)))) := hD
    have hE : (va_up ((va_up o 0 (va_up (o 0) 4 (nI (C + 1))))) 1 (va_up (o 1) C z)) = va_up (va_up o 0 (va_up (o 0) 4 (nI (C + 1)))) 1 (va_up (o 1) C z) := by rfl
    exact hret _ _ _ _ dX6_addCloud_29 (by rw [← hE]; exact hP) (by rw [← hE]; exact hD) hS

set_option maxHeartbeats 4000000 in
set_option maxRecDepth 100000 in
theorem c_X8_has (l : Launch) (D : va_G) (T : Nat → ClassId) (a : Nat → Nat) (o : Nat → Nat → Int32) (z : Int32) : Met l yX8_has wsX8_has ({ frames := 0, cells := 0, slots := 0, locals := 0 } : Room) (va_Pc [.ref (a 3), .int (z)] (PR D T (OFF T a o))) (QcRead (bI (decide (0 ≤ z) && decide (z < o 0 5)))) 0 0 (fun _ => False) := by
  refine metR (cc := cX8_has) (maxL := 2) (ty := .boolean) (by decide) rfl (by exact bI_nb _) (Nat.le_of_ble_eq_true rfl) ?_
  intro p e s m args below meth c Q ls hx hb hml hown hts hP hK hl hret
  have hown : s.vm.findClass RX8 = some m.cls := hown
  have hl : lv_has ls 2 [(0, .ref (a 3)), (1, .int (z))] := hl
  have i8 : ∀ w ∈ wsX80, w ∈ wsX8_has := by decide +kernel
  have w1 := hts (Cond.fieldLink RX8 18 "MoonComplaintWindow$Staff" "total" "I") (List.mem_of_getElem? (i := 1) rfl)
  refine lv_iload_n hx hb dX8_has_0 rfl (lv_at hl 1 rfl) ?_
  refine lv_if_lt (tgt := 16) hx hb dX8_has_1 (by decide) (fun c1 => ?_) (fun c1 => ?_)
  ·
    refine lv_iconst (v := 0) hx hb dX8_has_16 (by decide) ?_
    refine endI (r := bI (decide (0 ≤ z) && decide (z < o 0 5))) (by (first | have c1x := Int32.not_lt.mp c1 | have c1x := Int32.not_le.mp c1 | have c1x := Int32.not_lt.mpr c1 | have c1x := Int32.not_le.mpr c1 | have c1x := c1); simp [bI, c1, c1x]) ?_
    exact hret ls _ dX8_has_17
  ·
    refine lv_iload_n hx hb dX8_has_4 rfl (lv_at hl 1 rfl) ?_
    refine lv_aload_n hx hb dX8_has_5 rfl (lv_at hl 0 rfl) ?_
    refine va_get (D := D) (ci := 8) (v := .int (o 0 5)) (C := RX8) (T := TX8) (N := 4) hx hb hts i8 hown hK hP 3 rfl rfl 0 (by decide) w1 (fun _ h9 => h9) rfl dX8_has_6 ?_
    refine lv_icmp_ge (tgt := 16) hx hb dX8_has_9 (by decide) (fun c9 => ?_) (fun c9 => ?_)
    ·
      refine lv_iconst (v := 0) hx hb dX8_has_16 (by decide) ?_
      refine endI (r := bI (decide (0 ≤ z) && decide (z < o 0 5))) (by (first | have c1x := Int32.not_lt.mp c1 | have c1x := Int32.not_le.mp c1 | have c1x := Int32.not_lt.mpr c1 | have c1x := Int32.not_le.mpr c1 | have c1x := c1); (first | have c9x := Int32.not_lt.mp c9 | have c9x := Int32.not_le.mp c9 | have c9x := Int32.not_lt.mpr c9 | have c9x := Int32.not_le.mpr c9 | have c9x := c9); simp [bI, c1, c9, c1x, c9x]) ?_
      exact hret ls _ dX8_has_17
    ·
      refine lv_iconst (v := 1) hx hb dX8_has_12 (by decide) ?_
      refine lv_goto (tgt := 17) hx hb dX8_has_13 (by decide) ?_
      refine endI (r := bI (decide (0 ≤ z) && decide (z < o 0 5))) (by (first | have c1x := Int32.not_lt.mp c1 | have c1x := Int32.not_le.mp c1 | have c1x := Int32.not_lt.mpr c1 | have c1x := Int32.not_le.mpr c1 | have c1x := c1); (first | have c9x := Int32.not_lt.mp c9 | have c9x := Int32.not_le.mp c9 | have c9x := Int32.not_lt.mpr c9 | have c9x := Int32.not_le.mpr c9 | have c9x := c9); simp [bI, c1, c9, c1x, c9x]) ?_
      exact hret ls _ dX8_has_17

set_option maxHeartbeats 4000000 in
set_option maxRecDepth 100000 in
theorem c_X8_add (l : Launch) (D : va_G) (T : Nat → ClassId) (a : Nat → Nat) (o : Nat → Nat → Int32) (z : Int32) (z1 : Int32) (K : Nat) (hKn : o 0 5 = nI K) (hK2 : K < 5) (sz : Nat) : Met l yX8_add wsX8_add ({ frames := 0, cells := 0, slots := 0, locals := 0 } : Room) (va_Pc [.ref (a 3), .int (z), .int (z1)] (PS D T (OFF T a o) sz)) (va_Qv (fun (_ : Unit) => True) (fun _ t => QS D T (va_A (OFF T a o) sz) (OFF T a (staffAdd o K z z1)) t) (va_A (OFF T a o) sz)) 0 0 (va_A (OFF T a o) sz) := by
  refine metSv (cc := cX8_add) (maxL := 3) (by decide) rfl (Nat.le_of_ble_eq_true rfl) ?_
  intro p e s m args below meth c Q ls A hx hb hml hown hts hP hK hD hA hS hl hret
  have hown : s.vm.findClass RX8 = some m.cls := hown
  have hl : lv_has ls 3 [(0, .ref (a 3)), (1, .int (z)), (2, .int (z1))] := hl
  have i8 : ∀ w ∈ wsX80, w ∈ wsX8_add := by decide +kernel
  have w1 := hts (Cond.fieldLink RX8 18 "MoonComplaintWindow$Staff" "total" "I") (List.mem_of_getElem? (i := 1) rfl)
  have w2 := hts (Cond.fieldLink RX8 9 "MoonComplaintWindow$Staff" "skills" "[I") (List.mem_of_getElem? (i := 2) rfl)
  have w3 := hts (Cond.fieldLink RX8 15 "MoonComplaintWindow$Staff" "oils" "[I") (List.mem_of_getElem? (i := 3) rfl)
  refine lv_aload_n hx hb dX8_add_0 rfl (lv_at hl 0 rfl) ?_
  refine va_get (D := D) (ci := 8) (v := .int (o 0 5)) (C := RX8) (T := TX8) (N := 4) hx hb hts i8 hown hK hP 3 rfl rfl 0 (by decide) w1 (fun _ h9 => h9) rfl dX8_add_1 ?_
  refine endI (r := nI K) (hKn) ?_
  refine lv_iconst (v := 5) hx hb dX8_add_4 (by decide) ?_
  refine lv_icmp_ge (tgt := 38) hx hb dX8_add_5 (by decide) (fun c5 => ?_) (fun c5 => ?_)
  ·
    have c5 : 5 ≤ K := (nI_leI (a := 5) (b := K) (by omega) (by omega)).mp c5
    exact absurd c5 (by omega)
  ·
    have c5 : ¬ 5 ≤ K := fun h9 => c5 ((nI_leI (a := 5) (b := K) (by omega) (by omega)).mpr h9)
    refine lv_aload_n hx hb dX8_add_8 rfl (lv_at hl 0 rfl) ?_
    refine va_get (D := D) (ci := 8) (v := .ref (a 4)) (C := RX8) (T := TX8) (N := 4) hx hb hts i8 hown hK hP 3 rfl rfl 2 (by decide) w2 (fun _ h9 => h9) rfl dX8_add_9 ?_
    refine lv_aload_n hx hb dX8_add_12 rfl (lv_at hl 0 rfl) ?_
    refine va_get (D := D) (ci := 8) (v := .int (o 0 5)) (C := RX8) (T := TX8) (N := 4) hx hb hts i8 hown hK hP 3 rfl rfl 0 (by decide) w1 (fun _ h9 => h9) rfl dX8_add_13 ?_
    refine endI (r := nI K) (hKn) ?_
    refine lv_iload_n hx hb dX8_add_16 rfl (lv_at hl 1 rfl) ?_
    refine astI hx hb hK hP hD hS 4 0 rfl rfl (K) rfl (by omega) (by decide) dX8_add_17 (fun H locs hP hD hS => ?_)
    have hP : va_P D vwCl (OFF T a ((va_up o 2 (va_up (o 2) K z)))) H := hP
    have hD : va_D A (OFF T a ((va_up o 2 (va_up (o 2) K z)))) := hD
    refine lv_aload_n hx hb dX8_add_18 rfl (lv_at hl 0 rfl) ?_
    refine va_get (D := D) (ci := 8) (v := .ref (a 5)) (C := RX8) (T := TX8) (N := 4) hx hb hts i8 hown hK hP 3 rfl rfl 3 (by decide) w3 (fun _ h9 => h9) rfl dX8_add_19 ?_
    refine lv_aload_n hx hb dX8_add_22 rfl (lv_at hl 0 rfl) ?_
    refine va_get (D := D) (ci := 8) (v := .int (o 0 5)) (C := RX8) (T := TX8) (N := 4) hx hb hts i8 hown hK hP 3 rfl rfl 0 (by decide) w1 (fun _ h9 => h9) rfl dX8_add_23 ?_
    refine endI (r := nI K) (hKn) ?_
    refine lv_iload_n hx hb dX8_add_26 rfl (lv_at hl 2 rfl) ?_
    refine astI hx hb hK hP hD hS 5 0 rfl rfl (K) rfl (by omega) (by decide) dX8_add_27 (fun H locs hP hD hS => ?_)
    have hP : va_P D vwCl (OFF T a ((va_up ((va_up o 2 (va_up (o 2) K z))) 3 (va_up (o 3) K z1)))) H := hP
    have hD : va_D A (OFF T a ((va_up ((va_up o 2 (va_up (o 2) K z))) 3 (va_up (o 3) K z1)))) := hD
    refine lv_aload_n hx hb dX8_add_28 rfl (lv_at hl 0 rfl) ?_
    refine lv_dup hx hb dX8_add_29 rfl ?_
    refine va_get (D := D) (ci := 8) (v := .int (o 0 5)) (C := RX8) (T := TX8) (N := 4) hx hb hts i8 hown hK hP 3 rfl rfl 0 (by decide) w1 (fun _ h9 => h9) rfl dX8_add_30 ?_
    refine endI (r := nI K) (hKn) ?_
    refine lv_iconst (v := 1) hx hb dX8_add_33 (by decide) ?_
    refine lv_iadd hx hb dX8_add_34 ?_
    refine endI (r := nI (K + 1)) (nI_add _ _) ?_
    refine va_put (D := D) (ci := 8) (v := .int (nI (K + 1))) (ty := .int) (C := RX8) (T := TX8) (N := 4) hx hb hts i8 tyX8 tyX8_ok nmX8 hown hK hP hD hS 3 rfl rfl 0 (by decide) w1 (fun _ h9 => h9) rfl (by decide +kernel) rfl rfl (Nat.le_of_ble_eq_true rfl) dX8_add_35 (fun H locs hP hD hS => ?_)
    have hP : va_P D vwCl (OFF T a ((va_up ((va_up ((va_up o 0 (va_up (o 0) 5 (nI (K + 1))))) 2 (va_up (o 2) K z))) 3 (va_up (o 3) K z1)))) H := hP
    have hD : va_D A (OFF T a ((va_up ((va_up ((va_up o 0 (va_up (o 0) 5 (nI (K + 1))))) 2 (va_up (o 2) K z))) 3 (va_up (o 3) K z1)))) := hD
    have hE : (va_up ((va_up ((va_up o 0 (va_up (o 0) 5 (nI (K + 1))))) 2 (va_up (o 2) K z))) 3 (va_up (o 3) K z1)) = staffAdd o K z z1 := by rfl
    exact hret _ _ _ _ dX8_add_38 (by rw [← hE]; exact hP) (by rw [← hE]; exact hD) hS

set_option maxHeartbeats 4000000 in
set_option maxRecDepth 100000 in
theorem c_X8_burn (l : Launch) (D : va_G) (T : Nat → ClassId) (a : Nat → Nat) (o : Nat → Nat → Int32) (j : Nat) (z : Int32) (K : Nat) (hKn : o 0 5 = nI K) (hK2 : K ≤ 5) (hj : j < K) (sz : Nat) : Met l yX8_burn wsX8_burn ({ frames := 1, cells := 0, slots := 0, locals := 21 } : Room) (va_Pc [.ref (a 3), .int (nI j), .int (z)] (PS D T (OFF T a o) sz)) (va_Qv (fun (_ : Unit) => True) (fun _ t => QS D T (va_A (OFF T a o) sz) (OFF T a (burnC o j z)) t) (va_A (OFF T a o) sz)) 0 0 (va_A (OFF T a o) sz) := by
  refine metSv (cc := cX8_burn) (maxL := 3) (by decide) rfl (Nat.le_of_ble_eq_true rfl) ?_
  intro p e s m args below meth c Q ls A hx hb hml hown hts hP hK hD hA hS hl hret
  have hown : s.vm.findClass RX8 = some m.cls := hown
  have hl : lv_has ls 3 [(0, .ref (a 3)), (1, .int (nI j)), (2, .int (z))] := hl
  have i8 : ∀ w ∈ wsX80, w ∈ wsX8_burn := by decide +kernel
  have w1 := hts (Cond.fieldLink RX8 15 "MoonComplaintWindow$Staff" "oils" "[I") (List.mem_of_getElem? (i := 1) rfl)
  have w2 := hts (Cond.fieldLink RX8 26 "MoonComplaintWindow$Staff" "oilUsed" "I") (List.mem_of_getElem? (i := 2) rfl)
  refine lv_aload_n hx hb dX8_burn_0 rfl (lv_at hl 0 rfl) ?_
  refine lv_iload_n hx hb dX8_burn_1 rfl (lv_at hl 1 rfl) ?_
  refine rdV (As := [.int (nI j)]) (rest := []) ⟨hx, hb, hml, hown, hts⟩ (c_X8_has l D T a o (nI j) ) (cwV 1 hts gX8_burn_X8_has rfl rfl rfl (by decide +kernel) ⟨Nat.le_of_ble_eq_true rfl, Nat.le_of_ble_eq_true rfl⟩) hK hP 3 rfl rfl rfl hl.1 rfl (Nat.le_of_ble_eq_true rfl) ⟨Nat.zero_le _, Nat.zero_le _⟩ dX8_burn_2 ?_
  refine lv_if_eq (tgt := 28) hx hb dX8_burn_5 (by decide) (fun c5 => ?_) (fun c5 => ?_)
  ·
    have c5 := bI_0.mp c5
    exact absurd c5 (by rw [hKn, decide_eq_true (nI_pos' (n := j) (by omega)), decide_eq_true (nI_lt (a := j) (b := K) hj (by omega))]; decide)
  ·
    have c5 := bI_n0.mp c5
    refine lv_aload_n hx hb dX8_burn_8 rfl (lv_at hl 0 rfl) ?_
    refine va_get (D := D) (ci := 8) (v := .ref (a 5)) (C := RX8) (T := TX8) (N := 4) hx hb hts i8 hown hK hP 3 rfl rfl 3 (by decide) w1 (fun _ h9 => h9) rfl dX8_burn_9 ?_
    refine lv_iload_n hx hb dX8_burn_12 rfl (lv_at hl 1 rfl) ?_
    refine lv_dup2_11 hx hb dX8_burn_13 rfl rfl ?_
    refine aldI hx hb hK hP 5 0 rfl rfl (j) rfl (by omega) (by decide) dX8_burn_14 ?_
    refine lv_iload_n hx hb dX8_burn_15 rfl (lv_at hl 2 rfl) ?_
    refine lv_isub hx hb dX8_burn_16 ?_
    refine astI hx hb hK hP hD hS 5 0 rfl rfl (j) rfl (by omega) (by decide) dX8_burn_17 (fun H locs hP hD hS => ?_)
    have hP : va_P D vwCl (OFF T a ((va_up o 3 (va_up (o 3) j ((o 3 j) - z))))) H := hP
    have hD : va_D A (OFF T a ((va_up o 3 (va_up (o 3) j ((o 3 j) - z))))) := hD
    refine lv_aload_n hx hb dX8_burn_18 rfl (lv_at hl 0 rfl) ?_
    refine lv_dup hx hb dX8_burn_19 rfl ?_
    refine va_get (D := D) (ci := 8) (v := .int (o 0 6)) (C := RX8) (T := TX8) (N := 4) hx hb hts i8 hown hK hP 3 rfl rfl 1 (by decide) w2 (fun _ h9 => h9) rfl dX8_burn_20 ?_
    refine lv_iload_n hx hb dX8_burn_23 rfl (lv_at hl 2 rfl) ?_
    refine lv_iadd hx hb dX8_burn_24 ?_
    refine va_put (D := D) (ci := 8) (v := .int ((o 0 6) + z)) (ty := .int) (C := RX8) (T := TX8) (N := 4) hx hb hts i8 tyX8 tyX8_ok nmX8 hown hK hP hD hS 3 rfl rfl 1 (by decide) w2 (fun _ h9 => h9) rfl (by decide +kernel) rfl rfl (Nat.le_of_ble_eq_true rfl) dX8_burn_25 (fun H locs hP hD hS => ?_)
    have hP : va_P D vwCl (OFF T a ((va_up ((va_up o 0 (va_up (o 0) 6 ((o 0 6) + z)))) 3 (va_up (o 3) j ((o 3 j) - z))))) H := hP
    have hD : va_D A (OFF T a ((va_up ((va_up o 0 (va_up (o 0) 6 ((o 0 6) + z)))) 3 (va_up (o 3) j ((o 3 j) - z))))) := hD
    have hE : (va_up ((va_up o 0 (va_up (o 0) 6 ((o 0 6) + z)))) 3 (va_up (o 3) j ((o 3 j) - z))) = burnC o j z := by rfl
    exact hret _ _ _ _ dX8_burn_28 (by rw [← hE]; exact hP) (by rw [← hE]; exact hD) hS

set_option maxHeartbeats 4000000 in
set_option maxRecDepth 100000 in
theorem c_X8_withLeastOil (l : Launch) (D : va_G) (T : Nat → ClassId) (a : Nat → Nat) (o : Nat → Nat → Int32) (K : Nat) (hKn : o 0 5 = nI K) (hK2 : K ≤ 5) : Met l yX8_withLeastOil wsX8_withLeastOil ({ frames := 0, cells := 0, slots := 0, locals := 0 } : Room) (va_Pc [.ref (a 3)] (PR D T (OFF T a o))) (QcRead (oI (minF (fun _ => true) (o 3) K 0 (none, 100)).1)) 0 0 (fun _ => False) := by
  refine metR (cc := cX8_withLeastOil) (maxL := 4) (ty := .int) (by decide) rfl (by rfl) (Nat.le_of_ble_eq_true rfl) ?_
  intro p e s m args below meth c Q ls hx hb hml hown hts hP hK hl hret
  have hown : s.vm.findClass RX8 = some m.cls := hown
  have hl : lv_has ls 4 [(0, .ref (a 3))] := hl
  have i8 : ∀ w ∈ wsX80, w ∈ wsX8_withLeastOil := by decide +kernel
  have w1 := hts (Cond.fieldLink RX8 18 "MoonComplaintWindow$Staff" "total" "I") (List.mem_of_getElem? (i := 1) rfl)
  have w2 := hts (Cond.fieldLink RX8 15 "MoonComplaintWindow$Staff" "oils" "[I") (List.mem_of_getElem? (i := 2) rfl)
  refine lv_iconst (v := -1) hx hb dX8_withLeastOil_0 (by decide) ?_
  refine lv_istore_n (lv' := [(1, .int (-1)), (0, .ref (a 3))]) hx hb dX8_withLeastOil_1 rfl hl (by decide) rfl (fun ls hl => ?_)
  refine lv_bipush (v := 100) hx hb dX8_withLeastOil_2 (by decide) ?_
  refine lv_istore_n (lv' := [(2, .int (100)), (1, .int (-1)), (0, .ref (a 3))]) hx hb dX8_withLeastOil_4 rfl hl (by decide) rfl (fun ls hl => ?_)
  refine lv_iconst (v := 0) hx hb dX8_withLeastOil_5 (by decide) ?_
  refine lv_istore_n (lv' := [(3, .int (0)), (2, .int (100)), (1, .int (-1)), (0, .ref (a 3))]) hx hb dX8_withLeastOil_6 rfl hl (by decide) rfl (fun ls hl => ?_)
  have L7 : ∀ (n9 : Nat) (k : Nat) (b : Option Nat) (x : Int32), (K - k) < n9 → (k ≤ K) → ((minF (fun _ => true) (o 3) (K - k) k (b, x)).1 = (minF (fun _ => true) (o 3) K 0 (none, 100)).1) → ∀ (ls : Array Slot), lv_has ls 4 [(3, .int (nI k)), (2, .int (x)), (1, .int (oI b)), (0, .ref (a 3))] → W p l e ({ frames := 0, cells := 0, slots := 0, locals := 0 } : Room) s m args below meth c s.heap [] 0 0 Q (F0 m 7 ls []) := by
    intro n9
    induction n9 with
    | zero => intro k b x hm9; exact absurd hm9 (Nat.not_lt_zero _)
    | succ n9 ih =>
      intro k b x hm9 hk9 hR ls hl
      refine lv_iload_n hx hb dX8_withLeastOil_7 rfl (lv_at hl 0 rfl) ?_
      refine lv_aload_n hx hb dX8_withLeastOil_8 rfl (lv_at hl 3 rfl) ?_
      refine va_get (D := D) (ci := 8) (v := .int (o 0 5)) (C := RX8) (T := TX8) (N := 4) hx hb hts i8 hown hK hP 3 rfl rfl 0 (by decide) w1 (fun _ h9 => h9) rfl dX8_withLeastOil_9 ?_
      refine endI (r := nI K) (hKn) ?_
      refine lv_icmp_ge (tgt := 40) hx hb dX8_withLeastOil_12 (by decide) (fun c12 => ?_) (fun c12 => ?_)
      ·
        have c12 : K ≤ k := (nI_leI (a := K) (b := k) (by omega) (by omega)).mp c12
        refine lv_iload_n hx hb dX8_withLeastOil_40 rfl (lv_at hl 2 rfl) ?_
        refine endI (r := oI (minF (fun _ => true) (o 3) K 0 (none, 100)).1) (by rw [minF_done (by omega)] at hR; rw [← hR]) ?_
        exact hret ls _ dX8_withLeastOil_41
      ·
        have c12 : ¬ K ≤ k := fun h9 => c12 ((nI_leI (a := K) (b := k) (by omega) (by omega)).mpr h9)
        refine lv_aload_n hx hb dX8_withLeastOil_15 rfl (lv_at hl 3 rfl) ?_
        refine va_get (D := D) (ci := 8) (v := .ref (a 5)) (C := RX8) (T := TX8) (N := 4) hx hb hts i8 hown hK hP 3 rfl rfl 3 (by decide) w2 (fun _ h9 => h9) rfl dX8_withLeastOil_16 ?_
        refine lv_iload_n hx hb dX8_withLeastOil_19 rfl (lv_at hl 0 rfl) ?_
        refine aldI hx hb hK hP 5 0 rfl rfl (k) rfl (by omega) (by decide) dX8_withLeastOil_20 ?_
        refine lv_iload_n hx hb dX8_withLeastOil_21 rfl (lv_at hl 1 rfl) ?_
        refine lv_icmp_ge (tgt := 34) hx hb dX8_withLeastOil_22 (by decide) (fun c22 => ?_) (fun c22 => ?_)
        ·
          refine lv_iinc (v := nI (k + 1)) (lv' := [(3, .int (nI (k + 1))), (2, .int (x)), (1, .int (oI b)), (0, .ref (a 3))]) hx hb dX8_withLeastOil_34 hl (k := 0) rfl (nI_1 _) (by decide) rfl (fun ls hl => ?_)
          refine lv_goto (tgt := 7) hx hb dX8_withLeastOil_37 (by decide) ?_
          exact ih (k + 1) b x (by omega) (by omega) (by rw [minF_step (by omega)] at hR; (first | have c12x := Int32.not_lt.mp c12 | have c12x := Int32.not_le.mp c12 | have c12x := Int32.not_lt.mpr c12 | have c12x := Int32.not_le.mpr c12 | have c12x := c12); (first | have c22x := Int32.not_lt.mp c22 | have c22x := Int32.not_le.mp c22 | have c22x := Int32.not_lt.mpr c22 | have c22x := Int32.not_le.mpr c22 | have c22x := c22); split at hR <;> first | exact hR | (rename_i h9; exfalso; revert h9; simp [c12, c22, c12x, c22x])) _ (lv_sub hl [0, 1, 2, 3] rfl)
        ·
          refine lv_aload_n hx hb dX8_withLeastOil_25 rfl (lv_at hl 3 rfl) ?_
          refine va_get (D := D) (ci := 8) (v := .ref (a 5)) (C := RX8) (T := TX8) (N := 4) hx hb hts i8 hown hK hP 3 rfl rfl 3 (by decide) w2 (fun _ h9 => h9) rfl dX8_withLeastOil_26 ?_
          refine lv_iload_n hx hb dX8_withLeastOil_29 rfl (lv_at hl 0 rfl) ?_
          refine aldI hx hb hK hP 5 0 rfl rfl (k) rfl (by omega) (by decide) dX8_withLeastOil_30 ?_
          refine lv_istore_n (lv' := [(2, .int (o 3 k)), (3, .int (nI k)), (1, .int (oI b)), (0, .ref (a 3))]) hx hb dX8_withLeastOil_31 rfl hl (by decide) rfl (fun ls hl => ?_)
          refine lv_iload_n hx hb dX8_withLeastOil_32 rfl (lv_at hl 1 rfl) ?_
          refine lv_istore_n (lv' := [(1, .int (nI k)), (2, .int (o 3 k)), (3, .int (nI k)), (0, .ref (a 3))]) hx hb dX8_withLeastOil_33 rfl hl (by decide) rfl (fun ls hl => ?_)
          refine lv_iinc (v := nI (k + 1)) (lv' := [(3, .int (nI (k + 1))), (1, .int (nI k)), (2, .int (o 3 k)), (0, .ref (a 3))]) hx hb dX8_withLeastOil_34 hl (k := 2) rfl (nI_1 _) (by decide) rfl (fun ls hl => ?_)
          refine lv_goto (tgt := 7) hx hb dX8_withLeastOil_37 (by decide) ?_
          exact ih (k + 1) (some k) (o 3 k) (by omega) (by omega) (by rw [minF_step (by omega)] at hR; (first | have c12x := Int32.not_lt.mp c12 | have c12x := Int32.not_le.mp c12 | have c12x := Int32.not_lt.mpr c12 | have c12x := Int32.not_le.mpr c12 | have c12x := c12); (first | have c22x := Int32.not_lt.mp c22 | have c22x := Int32.not_le.mp c22 | have c22x := Int32.not_lt.mpr c22 | have c22x := Int32.not_le.mpr c22 | have c22x := c22); split at hR <;> first | exact hR | (rename_i h9; exfalso; revert h9; simp [c12, c22, c12x, c22x])) _ (lv_sub hl [0, 2, 1, 3] rfl)
  exact L7 _ 0 none 100 (Nat.lt_succ_self _) (by omega) (by first | rfl | (simp; done)) _ (lv_sub hl [0, 1, 2, 3] rfl)

set_option maxHeartbeats 4000000 in
set_option maxRecDepth 100000 in
theorem c_X5_has (l : Launch) (D : va_G) (T : Nat → ClassId) (a : Nat → Nat) (o : Nat → Nat → Int32) (z : Int32) : Met l yX5_has wsX5_has ({ frames := 0, cells := 0, slots := 0, locals := 0 } : Room) (va_Pc [.ref (a 6), .int (z)] (PR D T (OFF T a o))) (QcRead (bI (decide (0 ≤ z) && decide (z < o 0 7)))) 0 0 (fun _ => False) := by
  refine metR (cc := cX5_has) (maxL := 2) (ty := .boolean) (by decide) rfl (by exact bI_nb _) (Nat.le_of_ble_eq_true rfl) ?_
  intro p e s m args below meth c Q ls hx hb hml hown hts hP hK hl hret
  have hown : s.vm.findClass RX5 = some m.cls := hown
  have hl : lv_has ls 2 [(0, .ref (a 6)), (1, .int (z))] := hl
  have i5 : ∀ w ∈ wsX50, w ∈ wsX5_has := by decide +kernel
  have w1 := hts (Cond.fieldLink RX5 33 "MoonComplaintWindow$Pile" "total" "I") (List.mem_of_getElem? (i := 1) rfl)
  refine lv_iload_n hx hb dX5_has_0 rfl (lv_at hl 1 rfl) ?_
  refine lv_if_lt (tgt := 16) hx hb dX5_has_1 (by decide) (fun c1 => ?_) (fun c1 => ?_)
  ·
    refine lv_iconst (v := 0) hx hb dX5_has_16 (by decide) ?_
    refine endI (r := bI (decide (0 ≤ z) && decide (z < o 0 7))) (by (first | have c1x := Int32.not_lt.mp c1 | have c1x := Int32.not_le.mp c1 | have c1x := Int32.not_lt.mpr c1 | have c1x := Int32.not_le.mpr c1 | have c1x := c1); simp [bI, c1, c1x]) ?_
    exact hret ls _ dX5_has_17
  ·
    refine lv_iload_n hx hb dX5_has_4 rfl (lv_at hl 1 rfl) ?_
    refine lv_aload_n hx hb dX5_has_5 rfl (lv_at hl 0 rfl) ?_
    refine va_get (D := D) (ci := 5) (v := .int (o 0 7)) (C := RX5) (T := TX5) (N := 8) hx hb hts i5 hown hK hP 6 rfl rfl 0 (by decide) w1 (fun _ h9 => h9) rfl dX5_has_6 ?_
    refine lv_icmp_ge (tgt := 16) hx hb dX5_has_9 (by decide) (fun c9 => ?_) (fun c9 => ?_)
    ·
      refine lv_iconst (v := 0) hx hb dX5_has_16 (by decide) ?_
      refine endI (r := bI (decide (0 ≤ z) && decide (z < o 0 7))) (by (first | have c1x := Int32.not_lt.mp c1 | have c1x := Int32.not_le.mp c1 | have c1x := Int32.not_lt.mpr c1 | have c1x := Int32.not_le.mpr c1 | have c1x := c1); (first | have c9x := Int32.not_lt.mp c9 | have c9x := Int32.not_le.mp c9 | have c9x := Int32.not_lt.mpr c9 | have c9x := Int32.not_le.mpr c9 | have c9x := c9); simp [bI, c1, c9, c1x, c9x]) ?_
      exact hret ls _ dX5_has_17
    ·
      refine lv_iconst (v := 1) hx hb dX5_has_12 (by decide) ?_
      refine lv_goto (tgt := 17) hx hb dX5_has_13 (by decide) ?_
      refine endI (r := bI (decide (0 ≤ z) && decide (z < o 0 7))) (by (first | have c1x := Int32.not_lt.mp c1 | have c1x := Int32.not_le.mp c1 | have c1x := Int32.not_lt.mpr c1 | have c1x := Int32.not_le.mpr c1 | have c1x := c1); (first | have c9x := Int32.not_lt.mp c9 | have c9x := Int32.not_le.mp c9 | have c9x := Int32.not_lt.mpr c9 | have c9x := Int32.not_le.mpr c9 | have c9x := c9); simp [bI, c1, c9, c1x, c9x]) ?_
      exact hret ls _ dX5_has_17

set_option maxHeartbeats 4000000 in
set_option maxRecDepth 100000 in
theorem c_X5_add (l : Launch) (D : va_G) (T : Nat → ClassId) (a : Nat → Nat) (o : Nat → Nat → Int32) (z : Int32) (z1 : Int32) (z2 : Int32) (z3 : Int32) (N : Nat) (hN : o 0 7 = nI N) (hN2 : N < 24) (sz : Nat) : Met l yX5_add wsX5_add ({ frames := 0, cells := 0, slots := 0, locals := 0 } : Room) (va_Pc [.ref (a 6), .int (z), .int (z1), .int (z2), .int (z3)] (PS D T (OFF T a o) sz)) (va_Qv (fun (_ : Unit) => True) (fun _ t => QS D T (va_A (OFF T a o) sz) (OFF T a (pileAdd o N z z1 z2 z3)) t) (va_A (OFF T a o) sz)) 0 0 (va_A (OFF T a o) sz) := by
  refine metSv (cc := cX5_add) (maxL := 5) (by decide) rfl (Nat.le_of_ble_eq_true rfl) ?_
  intro p e s m args below meth c Q ls A hx hb hml hown hts hP hK hD hA hS hl hret
  have hown : s.vm.findClass RX5 = some m.cls := hown
  have hl : lv_has ls 5 [(0, .ref (a 6)), (1, .int (z)), (2, .int (z1)), (3, .int (z2)), (4, .int (z3))] := hl
  have i5 : ∀ w ∈ wsX50, w ∈ wsX5_add := by decide +kernel
  have w1 := hts (Cond.fieldLink RX5 33 "MoonComplaintWindow$Pile" "total" "I") (List.mem_of_getElem? (i := 1) rfl)
  have w2 := hts (Cond.fieldLink RX5 9 "MoonComplaintWindow$Pile" "persons" "[I") (List.mem_of_getElem? (i := 2) rfl)
  have w3 := hts (Cond.fieldLink RX5 15 "MoonComplaintWindow$Pile" "sorts" "[I") (List.mem_of_getElem? (i := 3) rfl)
  have w4 := hts (Cond.fieldLink RX5 18 "MoonComplaintWindow$Pile" "angers" "[I") (List.mem_of_getElem? (i := 4) rfl)
  have w5 := hts (Cond.fieldLink RX5 21 "MoonComplaintWindow$Pile" "filed" "[I") (List.mem_of_getElem? (i := 5) rfl)
  have w6 := hts (Cond.fieldLink RX5 24 "MoonComplaintWindow$Pile" "states" "[I") (List.mem_of_getElem? (i := 6) rfl)
  have w7 := hts (Cond.fieldLink RX5 27 "MoonComplaintWindow$Pile" "closed" "[I") (List.mem_of_getElem? (i := 7) rfl)
  have w8 := hts (Cond.fieldLink RX5 30 "MoonComplaintWindow$Pile" "clerks" "[I") (List.mem_of_getElem? (i := 8) rfl)
  refine lv_aload_n hx hb dX5_add_0 rfl (lv_at hl 0 rfl) ?_
  refine va_get (D := D) (ci := 5) (v := .int (o 0 7)) (C := RX5) (T := TX5) (N := 8) hx hb hts i5 hown hK hP 6 rfl rfl 0 (by decide) w1 (fun _ h9 => h9) rfl dX5_add_1 ?_
  refine endI (r := nI N) (hN) ?_
  refine lv_bipush (v := 24) hx hb dX5_add_4 (by decide) ?_
  refine lv_icmp_ge (tgt := 90) hx hb dX5_add_6 (by decide) (fun c6 => ?_) (fun c6 => ?_)
  ·
    have c6 : 24 ≤ N := (nI_leI (a := 24) (b := N) (by omega) (by omega)).mp c6
    exact absurd c6 (by omega)
  ·
    have c6 : ¬ 24 ≤ N := fun h9 => c6 ((nI_leI (a := 24) (b := N) (by omega) (by omega)).mpr h9)
    refine lv_aload_n hx hb dX5_add_9 rfl (lv_at hl 0 rfl) ?_
    refine va_get (D := D) (ci := 5) (v := .ref (a 7)) (C := RX5) (T := TX5) (N := 8) hx hb hts i5 hown hK hP 6 rfl rfl 1 (by decide) w2 (fun _ h9 => h9) rfl dX5_add_10 ?_
    refine lv_aload_n hx hb dX5_add_13 rfl (lv_at hl 0 rfl) ?_
    refine va_get (D := D) (ci := 5) (v := .int (o 0 7)) (C := RX5) (T := TX5) (N := 8) hx hb hts i5 hown hK hP 6 rfl rfl 0 (by decide) w1 (fun _ h9 => h9) rfl dX5_add_14 ?_
    refine endI (r := nI N) (hN) ?_
    refine lv_iload_n hx hb dX5_add_17 rfl (lv_at hl 1 rfl) ?_
    refine astI hx hb hK hP hD hS 7 0 rfl rfl (N) rfl (by omega) (by decide) dX5_add_18 (fun H locs hP hD hS => ?_)
    have hP : va_P D vwCl (OFF T a ((va_up o 4 (va_up (o 4) N z)))) H := hP
    have hD : va_D A (OFF T a ((va_up o 4 (va_up (o 4) N z)))) := hD
    refine lv_aload_n hx hb dX5_add_19 rfl (lv_at hl 0 rfl) ?_
    refine va_get (D := D) (ci := 5) (v := .ref (a 8)) (C := RX5) (T := TX5) (N := 8) hx hb hts i5 hown hK hP 6 rfl rfl 2 (by decide) w3 (fun _ h9 => h9) rfl dX5_add_20 ?_
    refine lv_aload_n hx hb dX5_add_23 rfl (lv_at hl 0 rfl) ?_
    refine va_get (D := D) (ci := 5) (v := .int (o 0 7)) (C := RX5) (T := TX5) (N := 8) hx hb hts i5 hown hK hP 6 rfl rfl 0 (by decide) w1 (fun _ h9 => h9) rfl dX5_add_24 ?_
    refine endI (r := nI N) (hN) ?_
    refine lv_iload_n hx hb dX5_add_27 rfl (lv_at hl 2 rfl) ?_
    refine astI hx hb hK hP hD hS 8 0 rfl rfl (N) rfl (by omega) (by decide) dX5_add_28 (fun H locs hP hD hS => ?_)
    have hP : va_P D vwCl (OFF T a ((va_up ((va_up o 4 (va_up (o 4) N z))) 5 (va_up (o 5) N z1)))) H := hP
    have hD : va_D A (OFF T a ((va_up ((va_up o 4 (va_up (o 4) N z))) 5 (va_up (o 5) N z1)))) := hD
    refine lv_aload_n hx hb dX5_add_29 rfl (lv_at hl 0 rfl) ?_
    refine va_get (D := D) (ci := 5) (v := .ref (a 9)) (C := RX5) (T := TX5) (N := 8) hx hb hts i5 hown hK hP 6 rfl rfl 3 (by decide) w4 (fun _ h9 => h9) rfl dX5_add_30 ?_
    refine lv_aload_n hx hb dX5_add_33 rfl (lv_at hl 0 rfl) ?_
    refine va_get (D := D) (ci := 5) (v := .int (o 0 7)) (C := RX5) (T := TX5) (N := 8) hx hb hts i5 hown hK hP 6 rfl rfl 0 (by decide) w1 (fun _ h9 => h9) rfl dX5_add_34 ?_
    refine endI (r := nI N) (hN) ?_
    refine lv_iload_n hx hb dX5_add_37 rfl (lv_at hl 3 rfl) ?_
    refine astI hx hb hK hP hD hS 9 0 rfl rfl (N) rfl (by omega) (by decide) dX5_add_38 (fun H locs hP hD hS => ?_)
    have hP : va_P D vwCl (OFF T a ((va_up ((va_up ((va_up o 4 (va_up (o 4) N z))) 5 (va_up (o 5) N z1))) 6 (va_up (o 6) N z2)))) H := hP
    have hD : va_D A (OFF T a ((va_up ((va_up ((va_up o 4 (va_up (o 4) N z))) 5 (va_up (o 5) N z1))) 6 (va_up (o 6) N z2)))) := hD
    refine lv_aload_n hx hb dX5_add_39 rfl (lv_at hl 0 rfl) ?_
    refine va_get (D := D) (ci := 5) (v := .ref (a 10)) (C := RX5) (T := TX5) (N := 8) hx hb hts i5 hown hK hP 6 rfl rfl 4 (by decide) w5 (fun _ h9 => h9) rfl dX5_add_40 ?_
    refine lv_aload_n hx hb dX5_add_43 rfl (lv_at hl 0 rfl) ?_
    refine va_get (D := D) (ci := 5) (v := .int (o 0 7)) (C := RX5) (T := TX5) (N := 8) hx hb hts i5 hown hK hP 6 rfl rfl 0 (by decide) w1 (fun _ h9 => h9) rfl dX5_add_44 ?_
    refine endI (r := nI N) (hN) ?_
    refine lv_iload hx hb dX5_add_47 (lv_at hl 4 rfl) ?_
    refine astI hx hb hK hP hD hS 10 0 rfl rfl (N) rfl (by omega) (by decide) dX5_add_49 (fun H locs hP hD hS => ?_)
    have hP : va_P D vwCl (OFF T a ((va_up ((va_up ((va_up ((va_up o 4 (va_up (o 4) N z))) 5 (va_up (o 5) N z1))) 6 (va_up (o 6) N z2))) 7 (va_up (o 7) N z3)))) H := hP
    have hD : va_D A (OFF T a ((va_up ((va_up ((va_up ((va_up o 4 (va_up (o 4) N z))) 5 (va_up (o 5) N z1))) 6 (va_up (o 6) N z2))) 7 (va_up (o 7) N z3)))) := hD
    refine lv_aload_n hx hb dX5_add_50 rfl (lv_at hl 0 rfl) ?_
    refine va_get (D := D) (ci := 5) (v := .ref (a 11)) (C := RX5) (T := TX5) (N := 8) hx hb hts i5 hown hK hP 6 rfl rfl 5 (by decide) w6 (fun _ h9 => h9) rfl dX5_add_51 ?_
    refine lv_aload_n hx hb dX5_add_54 rfl (lv_at hl 0 rfl) ?_
    refine va_get (D := D) (ci := 5) (v := .int (o 0 7)) (C := RX5) (T := TX5) (N := 8) hx hb hts i5 hown hK hP 6 rfl rfl 0 (by decide) w1 (fun _ h9 => h9) rfl dX5_add_55 ?_
    refine endI (r := nI N) (hN) ?_
    refine lv_iconst (v := 0) hx hb dX5_add_58 (by decide) ?_
    refine astI hx hb hK hP hD hS 11 0 rfl rfl (N) rfl (by omega) (by decide) dX5_add_59 (fun H locs hP hD hS => ?_)
    have hP : va_P D vwCl (OFF T a ((va_up ((va_up ((va_up ((va_up ((va_up o 4 (va_up (o 4) N z))) 5 (va_up (o 5) N z1))) 6 (va_up (o 6) N z2))) 7 (va_up (o 7) N z3))) 8 (va_up (o 8) N 0)))) H := hP
    have hD : va_D A (OFF T a ((va_up ((va_up ((va_up ((va_up ((va_up o 4 (va_up (o 4) N z))) 5 (va_up (o 5) N z1))) 6 (va_up (o 6) N z2))) 7 (va_up (o 7) N z3))) 8 (va_up (o 8) N 0)))) := hD
    refine lv_aload_n hx hb dX5_add_60 rfl (lv_at hl 0 rfl) ?_
    refine va_get (D := D) (ci := 5) (v := .ref (a 12)) (C := RX5) (T := TX5) (N := 8) hx hb hts i5 hown hK hP 6 rfl rfl 6 (by decide) w7 (fun _ h9 => h9) rfl dX5_add_61 ?_
    refine lv_aload_n hx hb dX5_add_64 rfl (lv_at hl 0 rfl) ?_
    refine va_get (D := D) (ci := 5) (v := .int (o 0 7)) (C := RX5) (T := TX5) (N := 8) hx hb hts i5 hown hK hP 6 rfl rfl 0 (by decide) w1 (fun _ h9 => h9) rfl dX5_add_65 ?_
    refine endI (r := nI N) (hN) ?_
    refine lv_iconst (v := -1) hx hb dX5_add_68 (by decide) ?_
    refine astI hx hb hK hP hD hS 12 0 rfl rfl (N) rfl (by omega) (by decide) dX5_add_69 (fun H locs hP hD hS => ?_)
    have hP : va_P D vwCl (OFF T a ((va_up ((va_up ((va_up ((va_up ((va_up ((va_up o 4 (va_up (o 4) N z))) 5 (va_up (o 5) N z1))) 6 (va_up (o 6) N z2))) 7 (va_up (o 7) N z3))) 8 (va_up (o 8) N 0))) 9 (va_up (o 9) N (-1))))) H := hP
    have hD : va_D A (OFF T a ((va_up ((va_up ((va_up ((va_up ((va_up ((va_up o 4 (va_up (o 4) N z))) 5 (va_up (o 5) N z1))) 6 (va_up (o 6) N z2))) 7 (va_up (o 7) N z3))) 8 (va_up (o 8) N 0))) 9 (va_up (o 9) N (-1))))) := hD
    refine lv_aload_n hx hb dX5_add_70 rfl (lv_at hl 0 rfl) ?_
    refine va_get (D := D) (ci := 5) (v := .ref (a 13)) (C := RX5) (T := TX5) (N := 8) hx hb hts i5 hown hK hP 6 rfl rfl 7 (by decide) w8 (fun _ h9 => h9) rfl dX5_add_71 ?_
    refine lv_aload_n hx hb dX5_add_74 rfl (lv_at hl 0 rfl) ?_
    refine va_get (D := D) (ci := 5) (v := .int (o 0 7)) (C := RX5) (T := TX5) (N := 8) hx hb hts i5 hown hK hP 6 rfl rfl 0 (by decide) w1 (fun _ h9 => h9) rfl dX5_add_75 ?_
    refine endI (r := nI N) (hN) ?_
    refine lv_iconst (v := -1) hx hb dX5_add_78 (by decide) ?_
    refine astI hx hb hK hP hD hS 13 0 rfl rfl (N) rfl (by omega) (by decide) dX5_add_79 (fun H locs hP hD hS => ?_)
    have hP : va_P D vwCl (OFF T a ((va_up ((va_up ((va_up ((va_up ((va_up ((va_up ((va_up o 4 (va_up (o 4) N z))) 5 (va_up (o 5) N z1))) 6 (va_up (o 6) N z2))) 7 (va_up (o 7) N z3))) 8 (va_up (o 8) N 0))) 9 (va_up (o 9) N (-1)))) 10 (va_up (o 10) N (-1))))) H := hP
    have hD : va_D A (OFF T a ((va_up ((va_up ((va_up ((va_up ((va_up ((va_up ((va_up o 4 (va_up (o 4) N z))) 5 (va_up (o 5) N z1))) 6 (va_up (o 6) N z2))) 7 (va_up (o 7) N z3))) 8 (va_up (o 8) N 0))) 9 (va_up (o 9) N (-1)))) 10 (va_up (o 10) N (-1))))) := hD
    refine lv_aload_n hx hb dX5_add_80 rfl (lv_at hl 0 rfl) ?_
    refine lv_dup hx hb dX5_add_81 rfl ?_
    refine va_get (D := D) (ci := 5) (v := .int (o 0 7)) (C := RX5) (T := TX5) (N := 8) hx hb hts i5 hown hK hP 6 rfl rfl 0 (by decide) w1 (fun _ h9 => h9) rfl dX5_add_82 ?_
    refine endI (r := nI N) (hN) ?_
    refine lv_iconst (v := 1) hx hb dX5_add_85 (by decide) ?_
    refine lv_iadd hx hb dX5_add_86 ?_
    refine endI (r := nI (N + 1)) (nI_add _ _) ?_
    refine va_put (D := D) (ci := 5) (v := .int (nI (N + 1))) (ty := .int) (C := RX5) (T := TX5) (N := 8) hx hb hts i5 tyX5 tyX5_ok nmX5 hown hK hP hD hS 6 rfl rfl 0 (by decide) w1 (fun _ h9 => h9) rfl (by decide +kernel) rfl rfl (Nat.le_of_ble_eq_true rfl) dX5_add_87 (fun H locs hP hD hS => ?_)
    have hP : va_P D vwCl (OFF T a ((va_up ((va_up ((va_up ((va_up ((va_up ((va_up ((va_up ((va_up o 0 (va_up (o 0) 7 (nI (N + 1))))) 4 (va_up (o 4) N z))) 5 (va_up (o 5) N z1))) 6 (va_up (o 6) N z2))) 7 (va_up (o 7) N z3))) 8 (va_up (o 8) N 0))) 9 (va_up (o 9) N (-1)))) 10 (va_up (o 10) N (-1))))) H := hP
    have hD : va_D A (OFF T a ((va_up ((va_up ((va_up ((va_up ((va_up ((va_up ((va_up ((va_up o 0 (va_up (o 0) 7 (nI (N + 1))))) 4 (va_up (o 4) N z))) 5 (va_up (o 5) N z1))) 6 (va_up (o 6) N z2))) 7 (va_up (o 7) N z3))) 8 (va_up (o 8) N 0))) 9 (va_up (o 9) N (-1)))) 10 (va_up (o 10) N (-1))))) := hD
    have hE : (va_up ((va_up ((va_up ((va_up ((va_up ((va_up ((va_up ((va_up o 0 (va_up (o 0) 7 (nI (N + 1))))) 4 (va_up (o 4) N z))) 5 (va_up (o 5) N z1))) 6 (va_up (o 6) N z2))) 7 (va_up (o 7) N z3))) 8 (va_up (o 8) N 0))) 9 (va_up (o 9) N (-1)))) 10 (va_up (o 10) N (-1))) = pileAdd o N z z1 z2 z3 := by rfl
    exact hret _ _ _ _ dX5_add_90 (by rw [← hE]; exact hP) (by rw [← hE]; exact hD) hS

set_option maxHeartbeats 4000000 in
set_option maxRecDepth 100000 in
theorem c_X5_close (l : Launch) (D : va_G) (T : Nat → ClassId) (a : Nat → Nat) (o : Nat → Nat → Int32) (j : Nat) (z : Int32) (z1 : Int32) (z2 : Int32) (N : Nat) (hN : o 0 7 = nI N) (hN2 : N ≤ 24) (hj : j < N) (sz : Nat) : Met l yX5_close wsX5_close ({ frames := 1, cells := 0, slots := 0, locals := 21 } : Room) (va_Pc [.ref (a 6), .int (nI j), .int (z), .int (z1), .int (z2)] (PS D T (OFF T a o) sz)) (va_Qv (fun (_ : Unit) => True) (fun _ t => QS D T (va_A (OFF T a o) sz) (OFF T a (pileClose o j z z1 z2)) t) (va_A (OFF T a o) sz)) 0 0 (va_A (OFF T a o) sz) := by
  refine metSv (cc := cX5_close) (maxL := 5) (by decide) rfl (Nat.le_of_ble_eq_true rfl) ?_
  intro p e s m args below meth c Q ls A hx hb hml hown hts hP hK hD hA hS hl hret
  have hown : s.vm.findClass RX5 = some m.cls := hown
  have hl : lv_has ls 5 [(0, .ref (a 6)), (1, .int (nI j)), (2, .int (z)), (3, .int (z1)), (4, .int (z2))] := hl
  have i5 : ∀ w ∈ wsX50, w ∈ wsX5_close := by decide +kernel
  have w1 := hts (Cond.fieldLink RX5 24 "MoonComplaintWindow$Pile" "states" "[I") (List.mem_of_getElem? (i := 1) rfl)
  have w2 := hts (Cond.fieldLink RX5 27 "MoonComplaintWindow$Pile" "closed" "[I") (List.mem_of_getElem? (i := 2) rfl)
  have w3 := hts (Cond.fieldLink RX5 30 "MoonComplaintWindow$Pile" "clerks" "[I") (List.mem_of_getElem? (i := 3) rfl)
  refine lv_aload_n hx hb dX5_close_0 rfl (lv_at hl 0 rfl) ?_
  refine lv_iload_n hx hb dX5_close_1 rfl (lv_at hl 1 rfl) ?_
  refine rdV (As := [.int (nI j)]) (rest := []) ⟨hx, hb, hml, hown, hts⟩ (c_X5_has l D T a o (nI j) ) (cwV 1 hts gX5_close_X5_has rfl rfl rfl (by decide +kernel) ⟨Nat.le_of_ble_eq_true rfl, Nat.le_of_ble_eq_true rfl⟩) hK hP 6 rfl rfl rfl hl.1 rfl (Nat.le_of_ble_eq_true rfl) ⟨Nat.zero_le _, Nat.zero_le _⟩ dX5_close_2 ?_
  refine lv_if_eq (tgt := 30) hx hb dX5_close_5 (by decide) (fun c5 => ?_) (fun c5 => ?_)
  ·
    have c5 := bI_0.mp c5
    exact absurd c5 (by rw [hN, decide_eq_true (nI_pos' (n := j) (by omega)), decide_eq_true (nI_lt (a := j) (b := N) (by omega) (by omega))]; decide)
  ·
    have c5 := bI_n0.mp c5
    refine lv_aload_n hx hb dX5_close_8 rfl (lv_at hl 0 rfl) ?_
    refine va_get (D := D) (ci := 5) (v := .ref (a 11)) (C := RX5) (T := TX5) (N := 8) hx hb hts i5 hown hK hP 6 rfl rfl 5 (by decide) w1 (fun _ h9 => h9) rfl dX5_close_9 ?_
    refine lv_iload_n hx hb dX5_close_12 rfl (lv_at hl 1 rfl) ?_
    refine lv_iload_n hx hb dX5_close_13 rfl (lv_at hl 2 rfl) ?_
    refine astI hx hb hK hP hD hS 11 0 rfl rfl (j) rfl (by omega) (by decide) dX5_close_14 (fun H locs hP hD hS => ?_)
    have hP : va_P D vwCl (OFF T a ((va_up o 8 (va_up (o 8) j z)))) H := hP
    have hD : va_D A (OFF T a ((va_up o 8 (va_up (o 8) j z)))) := hD
    refine lv_aload_n hx hb dX5_close_15 rfl (lv_at hl 0 rfl) ?_
    refine va_get (D := D) (ci := 5) (v := .ref (a 12)) (C := RX5) (T := TX5) (N := 8) hx hb hts i5 hown hK hP 6 rfl rfl 6 (by decide) w2 (fun _ h9 => h9) rfl dX5_close_16 ?_
    refine lv_iload_n hx hb dX5_close_19 rfl (lv_at hl 1 rfl) ?_
    refine lv_iload_n hx hb dX5_close_20 rfl (lv_at hl 3 rfl) ?_
    refine astI hx hb hK hP hD hS 12 0 rfl rfl (j) rfl (by omega) (by decide) dX5_close_21 (fun H locs hP hD hS => ?_)
    have hP : va_P D vwCl (OFF T a ((va_up ((va_up o 8 (va_up (o 8) j z))) 9 (va_up (o 9) j z1)))) H := hP
    have hD : va_D A (OFF T a ((va_up ((va_up o 8 (va_up (o 8) j z))) 9 (va_up (o 9) j z1)))) := hD
    refine lv_aload_n hx hb dX5_close_22 rfl (lv_at hl 0 rfl) ?_
    refine va_get (D := D) (ci := 5) (v := .ref (a 13)) (C := RX5) (T := TX5) (N := 8) hx hb hts i5 hown hK hP 6 rfl rfl 7 (by decide) w3 (fun _ h9 => h9) rfl dX5_close_23 ?_
    refine lv_iload_n hx hb dX5_close_26 rfl (lv_at hl 1 rfl) ?_
    refine lv_iload hx hb dX5_close_27 (lv_at hl 4 rfl) ?_
    refine astI hx hb hK hP hD hS 13 0 rfl rfl (j) rfl (by omega) (by decide) dX5_close_29 (fun H locs hP hD hS => ?_)
    have hP : va_P D vwCl (OFF T a ((va_up ((va_up ((va_up o 8 (va_up (o 8) j z))) 9 (va_up (o 9) j z1))) 10 (va_up (o 10) j z2)))) H := hP
    have hD : va_D A (OFF T a ((va_up ((va_up ((va_up o 8 (va_up (o 8) j z))) 9 (va_up (o 9) j z1))) 10 (va_up (o 10) j z2)))) := hD
    have hE : (va_up ((va_up ((va_up o 8 (va_up (o 8) j z))) 9 (va_up (o 9) j z1))) 10 (va_up (o 10) j z2)) = pileClose o j z z1 z2 := by rfl
    exact hret _ _ _ _ dX5_close_30 (by rw [← hE]; exact hP) (by rw [← hE]; exact hD) hS

set_option maxHeartbeats 4000000 in
set_option maxRecDepth 100000 in
theorem c_X5_findWaiting (l : Launch) (D : va_G) (T : Nat → ClassId) (a : Nat → Nat) (o : Nat → Nat → Int32) (z : Int32) (z1 : Int32) (N : Nat) (hN : o 0 7 = nI N) (hN2 : N ≤ 24) : Met l yX5_findWaiting wsX5_findWaiting ({ frames := 0, cells := 0, slots := 0, locals := 0 } : Room) (va_Pc [.ref (a 6), .int (z), .int (z1)] (PR D T (OFF T a o))) (QcRead (oI (findC o z z1 N))) 0 0 (fun _ => False) := by
  refine metR (cc := cX5_findWaiting) (maxL := 4) (ty := .int) (by decide) rfl (by rfl) (Nat.le_of_ble_eq_true rfl) ?_
  intro p e s m args below meth c Q ls hx hb hml hown hts hP hK hl hret
  have hown : s.vm.findClass RX5 = some m.cls := hown
  have hl : lv_has ls 4 [(0, .ref (a 6)), (1, .int (z)), (2, .int (z1))] := hl
  have i5 : ∀ w ∈ wsX50, w ∈ wsX5_findWaiting := by decide +kernel
  have w1 := hts (Cond.fieldLink RX5 33 "MoonComplaintWindow$Pile" "total" "I") (List.mem_of_getElem? (i := 1) rfl)
  have w2 := hts (Cond.fieldLink RX5 24 "MoonComplaintWindow$Pile" "states" "[I") (List.mem_of_getElem? (i := 2) rfl)
  have w3 := hts (Cond.fieldLink RX5 9 "MoonComplaintWindow$Pile" "persons" "[I") (List.mem_of_getElem? (i := 3) rfl)
  have w4 := hts (Cond.fieldLink RX5 15 "MoonComplaintWindow$Pile" "sorts" "[I") (List.mem_of_getElem? (i := 4) rfl)
  refine lv_iconst (v := 0) hx hb dX5_findWaiting_0 (by decide) ?_
  refine lv_istore_n (lv' := [(3, .int (0)), (0, .ref (a 6)), (1, .int (z)), (2, .int (z1))]) hx hb dX5_findWaiting_1 rfl hl (by decide) rfl (fun ls hl => ?_)
  have L2 : ∀ (n9 : Nat) (k : Nat), (N - k) < n9 → (k ≤ N) → (ffind (fun k => decide (o 8 k = 0) && decide (o 4 k = z) && decide (o 5 k = z1)) (N - k) k = findC o z z1 N) → ∀ (ls : Array Slot), lv_has ls 4 [(3, .int (nI k)), (0, .ref (a 6)), (1, .int (z)), (2, .int (z1))] → W p l e ({ frames := 0, cells := 0, slots := 0, locals := 0 } : Room) s m args below meth c s.heap [] 0 0 Q (F0 m 2 ls []) := by
    intro n9
    induction n9 with
    | zero => intro k hm9; exact absurd hm9 (Nat.not_lt_zero _)
    | succ n9 ih =>
      intro k hm9 hk9 hR ls hl
      refine lv_iload_n hx hb dX5_findWaiting_2 rfl (lv_at hl 0 rfl) ?_
      refine lv_aload_n hx hb dX5_findWaiting_3 rfl (lv_at hl 1 rfl) ?_
      refine va_get (D := D) (ci := 5) (v := .int (o 0 7)) (C := RX5) (T := TX5) (N := 8) hx hb hts i5 hown hK hP 6 rfl rfl 0 (by decide) w1 (fun _ h9 => h9) rfl dX5_findWaiting_4 ?_
      refine endI (r := nI N) (hN) ?_
      refine lv_icmp_ge (tgt := 47) hx hb dX5_findWaiting_7 (by decide) (fun c7 => ?_) (fun c7 => ?_)
      ·
        have c7 : N ≤ k := (nI_leI (a := N) (b := k) (by omega) (by omega)).mp c7
        refine lv_iconst (v := -1) hx hb dX5_findWaiting_47 (by decide) ?_
        refine endI (r := oI (findC o z z1 N)) (by first | (rw [ffind_done (by omega)] at hR; rw [← hR]; rfl) | (rw [ffind_step (by omega)] at hR; simp [c7] at hR; rw [← hR]; rfl)) ?_
        exact hret ls _ dX5_findWaiting_48
      ·
        have c7 : ¬ N ≤ k := fun h9 => c7 ((nI_leI (a := N) (b := k) (by omega) (by omega)).mpr h9)
        refine lv_aload_n hx hb dX5_findWaiting_10 rfl (lv_at hl 1 rfl) ?_
        refine va_get (D := D) (ci := 5) (v := .ref (a 11)) (C := RX5) (T := TX5) (N := 8) hx hb hts i5 hown hK hP 6 rfl rfl 5 (by decide) w2 (fun _ h9 => h9) rfl dX5_findWaiting_11 ?_
        refine lv_iload_n hx hb dX5_findWaiting_14 rfl (lv_at hl 0 rfl) ?_
        refine aldI hx hb hK hP 11 0 rfl rfl (k) rfl (by omega) (by decide) dX5_findWaiting_15 ?_
        refine lv_if_ne (tgt := 41) hx hb dX5_findWaiting_16 (by decide) (fun c16 => ?_) (fun c16 => ?_)
        ·
          refine lv_iinc (v := nI (k + 1)) (lv' := [(3, .int (nI (k + 1))), (0, .ref (a 6)), (1, .int (z)), (2, .int (z1))]) hx hb dX5_findWaiting_41 hl (k := 0) rfl (nI_1 _) (by decide) rfl (fun ls hl => ?_)
          refine lv_goto (tgt := 2) hx hb dX5_findWaiting_44 (by decide) ?_
          exact ih (k + 1) (by omega) (by omega) (by rw [ffind_step (by omega)] at hR; simpa [c7, c16] using hR) _ (lv_sub hl [0, 1, 2, 3] rfl)
        ·
          refine lv_aload_n hx hb dX5_findWaiting_19 rfl (lv_at hl 1 rfl) ?_
          refine va_get (D := D) (ci := 5) (v := .ref (a 7)) (C := RX5) (T := TX5) (N := 8) hx hb hts i5 hown hK hP 6 rfl rfl 1 (by decide) w3 (fun _ h9 => h9) rfl dX5_findWaiting_20 ?_
          refine lv_iload_n hx hb dX5_findWaiting_23 rfl (lv_at hl 0 rfl) ?_
          refine aldI hx hb hK hP 7 0 rfl rfl (k) rfl (by omega) (by decide) dX5_findWaiting_24 ?_
          refine lv_iload_n hx hb dX5_findWaiting_25 rfl (lv_at hl 2 rfl) ?_
          refine lv_icmp_ne (tgt := 41) hx hb dX5_findWaiting_26 (by decide) (fun c26 => ?_) (fun c26 => ?_)
          ·
            refine lv_iinc (v := nI (k + 1)) (lv' := [(3, .int (nI (k + 1))), (0, .ref (a 6)), (1, .int (z)), (2, .int (z1))]) hx hb dX5_findWaiting_41 hl (k := 0) rfl (nI_1 _) (by decide) rfl (fun ls hl => ?_)
            refine lv_goto (tgt := 2) hx hb dX5_findWaiting_44 (by decide) ?_
            exact ih (k + 1) (by omega) (by omega) (by rw [ffind_step (by omega)] at hR; simpa [c7, c16, c26] using hR) _ (lv_sub hl [0, 1, 2, 3] rfl)
          ·
            refine lv_aload_n hx hb dX5_findWaiting_29 rfl (lv_at hl 1 rfl) ?_
            refine va_get (D := D) (ci := 5) (v := .ref (a 8)) (C := RX5) (T := TX5) (N := 8) hx hb hts i5 hown hK hP 6 rfl rfl 2 (by decide) w4 (fun _ h9 => h9) rfl dX5_findWaiting_30 ?_
            refine lv_iload_n hx hb dX5_findWaiting_33 rfl (lv_at hl 0 rfl) ?_
            refine aldI hx hb hK hP 8 0 rfl rfl (k) rfl (by omega) (by decide) dX5_findWaiting_34 ?_
            refine lv_iload_n hx hb dX5_findWaiting_35 rfl (lv_at hl 3 rfl) ?_
            refine lv_icmp_ne (tgt := 41) hx hb dX5_findWaiting_36 (by decide) (fun c36 => ?_) (fun c36 => ?_)
            ·
              refine lv_iinc (v := nI (k + 1)) (lv' := [(3, .int (nI (k + 1))), (0, .ref (a 6)), (1, .int (z)), (2, .int (z1))]) hx hb dX5_findWaiting_41 hl (k := 0) rfl (nI_1 _) (by decide) rfl (fun ls hl => ?_)
              refine lv_goto (tgt := 2) hx hb dX5_findWaiting_44 (by decide) ?_
              exact ih (k + 1) (by omega) (by omega) (by rw [ffind_step (by omega)] at hR; simpa [c7, c16, c26, c36] using hR) _ (lv_sub hl [0, 1, 2, 3] rfl)
            ·
              refine lv_iload_n hx hb dX5_findWaiting_39 rfl (lv_at hl 0 rfl) ?_
              refine endI (r := oI (findC o z z1 N)) (by first | (rw [ffind_done (by omega)] at hR; rw [← hR]; rfl) | (rw [ffind_step (by omega)] at hR; simp [c7, c16, c26, c36] at hR; rw [← hR]; rfl)) ?_
              exact hret ls _ dX5_findWaiting_40
  exact L2 _ 0 (Nat.lt_succ_self _) (by omega) (by first | rfl | (simp; done)) _ (lv_sub hl [0, 1, 2, 3] rfl)

set_option maxHeartbeats 4000000 in
set_option maxRecDepth 100000 in
theorem c_X5_firstFiled (l : Launch) (D : va_G) (T : Nat → ClassId) (a : Nat → Nat) (o : Nat → Nat → Int32) (z : Int32) (N : Nat) (hN : o 0 7 = nI N) (hN2 : N ≤ 24) : Met l yX5_firstFiled wsX5_firstFiled ({ frames := 0, cells := 0, slots := 0, locals := 0 } : Room) (va_Pc [.ref (a 6), .int (z)] (PR D T (OFF T a o))) (QcRead (oI (firstC o z N))) 0 0 (fun _ => False) := by
  refine metR (cc := cX5_firstFiled) (maxL := 5) (ty := .int) (by decide) rfl (by rfl) (Nat.le_of_ble_eq_true rfl) ?_
  intro p e s m args below meth c Q ls hx hb hml hown hts hP hK hl hret
  have hown : s.vm.findClass RX5 = some m.cls := hown
  have hl : lv_has ls 5 [(0, .ref (a 6)), (1, .int (z))] := hl
  have i5 : ∀ w ∈ wsX50, w ∈ wsX5_firstFiled := by decide +kernel
  have w1 := hts (Cond.fieldLink RX5 33 "MoonComplaintWindow$Pile" "total" "I") (List.mem_of_getElem? (i := 1) rfl)
  have w2 := hts (Cond.fieldLink RX5 24 "MoonComplaintWindow$Pile" "states" "[I") (List.mem_of_getElem? (i := 2) rfl)
  have w3 := hts (Cond.fieldLink RX5 21 "MoonComplaintWindow$Pile" "filed" "[I") (List.mem_of_getElem? (i := 3) rfl)
  refine lv_iconst (v := -1) hx hb dX5_firstFiled_0 (by decide) ?_
  refine lv_istore_n (lv' := [(2, .int (-1)), (0, .ref (a 6)), (1, .int (z))]) hx hb dX5_firstFiled_1 rfl hl (by decide) rfl (fun ls hl => ?_)
  refine lv_iload_n hx hb dX5_firstFiled_2 rfl (lv_at hl 2 rfl) ?_
  refine lv_iconst (v := 1) hx hb dX5_firstFiled_3 (by decide) ?_
  refine lv_iadd hx hb dX5_firstFiled_4 ?_
  refine lv_istore_n (lv' := [(3, .int (z + 1)), (2, .int (-1)), (0, .ref (a 6)), (1, .int (z))]) hx hb dX5_firstFiled_5 rfl hl (by decide) rfl (fun ls hl => ?_)
  refine lv_iconst (v := 0) hx hb dX5_firstFiled_6 (by decide) ?_
  refine lv_istore (lv' := [(4, .int (0)), (3, .int (z + 1)), (2, .int (-1)), (0, .ref (a 6)), (1, .int (z))]) hx hb dX5_firstFiled_7 hl (by decide) rfl (fun ls hl => ?_)
  have L9 : ∀ (n9 : Nat) (k : Nat) (b : Option Nat) (x : Int32), (N - k) < n9 → (k ≤ N) → ((minF (fun k => decide (o 8 k = 0)) (o 7) (N - k) k (b, x)).1 = firstC o z N) → ∀ (ls : Array Slot), lv_has ls 5 [(4, .int (nI k)), (3, .int (x)), (2, .int (oI b)), (0, .ref (a 6)), (1, .int (z))] → W p l e ({ frames := 0, cells := 0, slots := 0, locals := 0 } : Room) s m args below meth c s.heap [] 0 0 Q (F0 m 9 ls []) := by
    intro n9
    induction n9 with
    | zero => intro k b x hm9; exact absurd hm9 (Nat.not_lt_zero _)
    | succ n9 ih =>
      intro k b x hm9 hk9 hR ls hl
      refine lv_iload hx hb dX5_firstFiled_9 (lv_at hl 0 rfl) ?_
      refine lv_aload_n hx hb dX5_firstFiled_11 rfl (lv_at hl 3 rfl) ?_
      refine va_get (D := D) (ci := 5) (v := .int (o 0 7)) (C := RX5) (T := TX5) (N := 8) hx hb hts i5 hown hK hP 6 rfl rfl 0 (by decide) w1 (fun _ h9 => h9) rfl dX5_firstFiled_12 ?_
      refine endI (r := nI N) (hN) ?_
      refine lv_icmp_ge (tgt := 56) hx hb dX5_firstFiled_15 (by decide) (fun c15 => ?_) (fun c15 => ?_)
      ·
        have c15 : N ≤ k := (nI_leI (a := N) (b := k) (by omega) (by omega)).mp c15
        refine lv_iload_n hx hb dX5_firstFiled_56 rfl (lv_at hl 2 rfl) ?_
        refine endI (r := oI (firstC o z N)) (by rw [minF_done (by omega)] at hR; rw [← hR]) ?_
        exact hret ls _ dX5_firstFiled_57
      ·
        have c15 : ¬ N ≤ k := fun h9 => c15 ((nI_leI (a := N) (b := k) (by omega) (by omega)).mpr h9)
        refine lv_aload_n hx hb dX5_firstFiled_18 rfl (lv_at hl 3 rfl) ?_
        refine va_get (D := D) (ci := 5) (v := .ref (a 11)) (C := RX5) (T := TX5) (N := 8) hx hb hts i5 hown hK hP 6 rfl rfl 5 (by decide) w2 (fun _ h9 => h9) rfl dX5_firstFiled_19 ?_
        refine lv_iload hx hb dX5_firstFiled_22 (lv_at hl 0 rfl) ?_
        refine aldI hx hb hK hP 11 0 rfl rfl (k) rfl (by omega) (by decide) dX5_firstFiled_24 ?_
        refine lv_if_ne (tgt := 50) hx hb dX5_firstFiled_25 (by decide) (fun c25 => ?_) (fun c25 => ?_)
        ·
          refine lv_iinc (v := nI (k + 1)) (lv' := [(4, .int (nI (k + 1))), (3, .int (x)), (2, .int (oI b)), (0, .ref (a 6)), (1, .int (z))]) hx hb dX5_firstFiled_50 hl (k := 0) rfl (nI_1 _) (by decide) rfl (fun ls hl => ?_)
          refine lv_goto (tgt := 9) hx hb dX5_firstFiled_53 (by decide) ?_
          exact ih (k + 1) b x (by omega) (by omega) (by rw [minF_step (by omega)] at hR; (first | have c15x := Int32.not_lt.mp c15 | have c15x := Int32.not_le.mp c15 | have c15x := Int32.not_lt.mpr c15 | have c15x := Int32.not_le.mpr c15 | have c15x := c15); (first | have c25x := Int32.not_lt.mp c25 | have c25x := Int32.not_le.mp c25 | have c25x := Int32.not_lt.mpr c25 | have c25x := Int32.not_le.mpr c25 | have c25x := c25); split at hR <;> first | exact hR | (rename_i h9; exfalso; revert h9; simp [c15, c25, c15x, c25x])) _ (lv_sub hl [0, 1, 2, 3, 4] rfl)
        ·
          refine lv_aload_n hx hb dX5_firstFiled_28 rfl (lv_at hl 3 rfl) ?_
          refine va_get (D := D) (ci := 5) (v := .ref (a 10)) (C := RX5) (T := TX5) (N := 8) hx hb hts i5 hown hK hP 6 rfl rfl 4 (by decide) w3 (fun _ h9 => h9) rfl dX5_firstFiled_29 ?_
          refine lv_iload hx hb dX5_firstFiled_32 (lv_at hl 0 rfl) ?_
          refine aldI hx hb hK hP 10 0 rfl rfl (k) rfl (by omega) (by decide) dX5_firstFiled_34 ?_
          refine lv_iload_n hx hb dX5_firstFiled_35 rfl (lv_at hl 1 rfl) ?_
          refine lv_icmp_ge (tgt := 50) hx hb dX5_firstFiled_36 (by decide) (fun c36 => ?_) (fun c36 => ?_)
          ·
            refine lv_iinc (v := nI (k + 1)) (lv' := [(4, .int (nI (k + 1))), (3, .int (x)), (2, .int (oI b)), (0, .ref (a 6)), (1, .int (z))]) hx hb dX5_firstFiled_50 hl (k := 0) rfl (nI_1 _) (by decide) rfl (fun ls hl => ?_)
            refine lv_goto (tgt := 9) hx hb dX5_firstFiled_53 (by decide) ?_
            exact ih (k + 1) b x (by omega) (by omega) (by rw [minF_step (by omega)] at hR; (first | have c15x := Int32.not_lt.mp c15 | have c15x := Int32.not_le.mp c15 | have c15x := Int32.not_lt.mpr c15 | have c15x := Int32.not_le.mpr c15 | have c15x := c15); (first | have c25x := Int32.not_lt.mp c25 | have c25x := Int32.not_le.mp c25 | have c25x := Int32.not_lt.mpr c25 | have c25x := Int32.not_le.mpr c25 | have c25x := c25); (first | have c36x := Int32.not_lt.mp c36 | have c36x := Int32.not_le.mp c36 | have c36x := Int32.not_lt.mpr c36 | have c36x := Int32.not_le.mpr c36 | have c36x := c36); split at hR <;> first | exact hR | (rename_i h9; exfalso; revert h9; simp [c15, c25, c36, c15x, c25x, c36x])) _ (lv_sub hl [0, 1, 2, 3, 4] rfl)
          ·
            refine lv_aload_n hx hb dX5_firstFiled_39 rfl (lv_at hl 3 rfl) ?_
            refine va_get (D := D) (ci := 5) (v := .ref (a 10)) (C := RX5) (T := TX5) (N := 8) hx hb hts i5 hown hK hP 6 rfl rfl 4 (by decide) w3 (fun _ h9 => h9) rfl dX5_firstFiled_40 ?_
            refine lv_iload hx hb dX5_firstFiled_43 (lv_at hl 0 rfl) ?_
            refine aldI hx hb hK hP 10 0 rfl rfl (k) rfl (by omega) (by decide) dX5_firstFiled_45 ?_
            refine lv_istore_n (lv' := [(3, .int (o 7 k)), (4, .int (nI k)), (2, .int (oI b)), (0, .ref (a 6)), (1, .int (z))]) hx hb dX5_firstFiled_46 rfl hl (by decide) rfl (fun ls hl => ?_)
            refine lv_iload hx hb dX5_firstFiled_47 (lv_at hl 1 rfl) ?_
            refine lv_istore_n (lv' := [(2, .int (nI k)), (3, .int (o 7 k)), (4, .int (nI k)), (0, .ref (a 6)), (1, .int (z))]) hx hb dX5_firstFiled_49 rfl hl (by decide) rfl (fun ls hl => ?_)
            refine lv_iinc (v := nI (k + 1)) (lv' := [(4, .int (nI (k + 1))), (2, .int (nI k)), (3, .int (o 7 k)), (0, .ref (a 6)), (1, .int (z))]) hx hb dX5_firstFiled_50 hl (k := 2) rfl (nI_1 _) (by decide) rfl (fun ls hl => ?_)
            refine lv_goto (tgt := 9) hx hb dX5_firstFiled_53 (by decide) ?_
            exact ih (k + 1) (some k) (o 7 k) (by omega) (by omega) (by rw [minF_step (by omega)] at hR; (first | have c15x := Int32.not_lt.mp c15 | have c15x := Int32.not_le.mp c15 | have c15x := Int32.not_lt.mpr c15 | have c15x := Int32.not_le.mpr c15 | have c15x := c15); (first | have c25x := Int32.not_lt.mp c25 | have c25x := Int32.not_le.mp c25 | have c25x := Int32.not_lt.mpr c25 | have c25x := Int32.not_le.mpr c25 | have c25x := c25); (first | have c36x := Int32.not_lt.mp c36 | have c36x := Int32.not_le.mp c36 | have c36x := Int32.not_lt.mpr c36 | have c36x := Int32.not_le.mpr c36 | have c36x := c36); split at hR <;> first | exact hR | (rename_i h9; exfalso; revert h9; simp [c15, c25, c36, c15x, c25x, c36x])) _ (lv_sub hl [0, 2, 1, 3, 4] rfl)
  exact L9 _ 0 none (z + 1) (Nat.lt_succ_self _) (by omega) (by first | rfl | (simp; done)) _ (lv_sub hl [0, 1, 2, 3, 4] rfl)

set_option maxHeartbeats 4000000 in
set_option maxRecDepth 100000 in
theorem c_X5_oldestToDismiss (l : Launch) (D : va_G) (T : Nat → ClassId) (a : Nat → Nat) (o : Nat → Nat → Int32) (z : Int32) (N : Nat) (hN : o 0 7 = nI N) (hN2 : N ≤ 24) : Met l yX5_oldestToDismiss wsX5_oldestToDismiss ({ frames := 1, cells := 0, slots := 0, locals := 24 } : Room) (va_Pc [.ref (a 6), .int (z)] (PR D T (OFF T a o))) (QcRead (oI (firstC o (z - 14) N))) 0 0 (fun _ => False) := by
  refine metR (cc := cX5_oldestToDismiss) (maxL := 2) (ty := .int) (by decide) rfl (by rfl) (Nat.le_of_ble_eq_true rfl) ?_
  intro p e s m args below meth c Q ls hx hb hml hown hts hP hK hl hret
  have hown : s.vm.findClass RX5 = some m.cls := hown
  have hl : lv_has ls 2 [(0, .ref (a 6)), (1, .int (z))] := hl
  refine lv_aload_n hx hb dX5_oldestToDismiss_0 rfl (lv_at hl 0 rfl) ?_
  refine lv_iload_n hx hb dX5_oldestToDismiss_1 rfl (lv_at hl 1 rfl) ?_
  refine lv_bipush (v := 14) hx hb dX5_oldestToDismiss_2 (by decide) ?_
  refine lv_isub hx hb dX5_oldestToDismiss_4 ?_
  refine rdV (As := [.int (z - 14)]) (rest := []) ⟨hx, hb, hml, hown, hts⟩ (c_X5_firstFiled l D T a o (z - 14) N (by first | omega | assumption | decide) (by first | omega | assumption | decide)) (cwV 1 hts gX5_oldestToDismiss_X5_firstFiled rfl rfl rfl (by decide +kernel) ⟨Nat.le_of_ble_eq_true rfl, Nat.le_of_ble_eq_true rfl⟩) hK hP 6 rfl rfl rfl hl.1 rfl (Nat.le_of_ble_eq_true rfl) ⟨Nat.zero_le _, Nat.zero_le _⟩ dX5_oldestToDismiss_5 ?_
  refine endI (r := oI (firstC o (z - 14) N)) (by first | rfl | (simp [*]; done)) ?_
  exact hret ls _ dX5_oldestToDismiss_8

set_option maxHeartbeats 4000000 in
set_option maxRecDepth 100000 in
theorem c_X5_withMostAnger (l : Launch) (D : va_G) (T : Nat → ClassId) (a : Nat → Nat) (o : Nat → Nat → Int32) (z : Int32) (N : Nat) (hN : o 0 7 = nI N) (hN2 : N ≤ 24) : Met l yX5_withMostAnger wsX5_withMostAnger ({ frames := 0, cells := 0, slots := 0, locals := 0 } : Room) (va_Pc [.ref (a 6), .int (z)] (PR D T (OFF T a o))) (QcRead (oI (mostC o z N))) 0 0 (fun _ => False) := by
  refine metR (cc := cX5_withMostAnger) (maxL := 6) (ty := .int) (by decide) rfl (by rfl) (Nat.le_of_ble_eq_true rfl) ?_
  intro p e s m args below meth c Q ls hx hb hml hown hts hP hK hl hret
  have hown : s.vm.findClass RX5 = some m.cls := hown
  have hl : lv_has ls 6 [(0, .ref (a 6)), (1, .int (z))] := hl
  have i5 : ∀ w ∈ wsX50, w ∈ wsX5_withMostAnger := by decide +kernel
  have w1 := hts (Cond.fieldLink RX5 33 "MoonComplaintWindow$Pile" "total" "I") (List.mem_of_getElem? (i := 1) rfl)
  have w2 := hts (Cond.fieldLink RX5 24 "MoonComplaintWindow$Pile" "states" "[I") (List.mem_of_getElem? (i := 2) rfl)
  have w3 := hts (Cond.fieldLink RX5 15 "MoonComplaintWindow$Pile" "sorts" "[I") (List.mem_of_getElem? (i := 3) rfl)
  have w4 := hts (Cond.fieldLink RX5 18 "MoonComplaintWindow$Pile" "angers" "[I") (List.mem_of_getElem? (i := 4) rfl)
  refine lv_iconst (v := -1) hx hb dX5_withMostAnger_0 (by decide) ?_
  refine lv_istore_n (lv' := [(2, .int (-1)), (0, .ref (a 6)), (1, .int (z))]) hx hb dX5_withMostAnger_1 rfl hl (by decide) rfl (fun ls hl => ?_)
  refine lv_iconst (v := 0) hx hb dX5_withMostAnger_2 (by decide) ?_
  refine lv_istore_n (lv' := [(3, .int (0)), (2, .int (-1)), (0, .ref (a 6)), (1, .int (z))]) hx hb dX5_withMostAnger_3 rfl hl (by decide) rfl (fun ls hl => ?_)
  refine lv_iconst (v := 0) hx hb dX5_withMostAnger_4 (by decide) ?_
  refine lv_istore (lv' := [(4, .int (0)), (3, .int (0)), (2, .int (-1)), (0, .ref (a 6)), (1, .int (z))]) hx hb dX5_withMostAnger_5 hl (by decide) rfl (fun ls hl => ?_)
  have L7 : ∀ (n9 : Nat) (k : Nat) (b : Option Nat) (x : Int32), (N - k) < n9 → (k ≤ N) → ((maxF (fun k => decide (o 8 k = 0) && decide ((z >>> (o 5 k &&& 31)) &&& 1 = 1)) (o 6) (N - k) k (b, x)).1 = mostC o z N) → ∀ (ls : Array Slot), lv_has ls 6 [(4, .int (nI k)), (3, .int (x)), (2, .int (oI b)), (0, .ref (a 6)), (1, .int (z))] → W p l e ({ frames := 0, cells := 0, slots := 0, locals := 0 } : Room) s m args below meth c s.heap [] 0 0 Q (F0 m 7 ls []) := by
    intro n9
    induction n9 with
    | zero => intro k b x hm9; exact absurd hm9 (Nat.not_lt_zero _)
    | succ n9 ih =>
      intro k b x hm9 hk9 hR ls hl
      refine lv_iload hx hb dX5_withMostAnger_7 (lv_at hl 0 rfl) ?_
      refine lv_aload_n hx hb dX5_withMostAnger_9 rfl (lv_at hl 3 rfl) ?_
      refine va_get (D := D) (ci := 5) (v := .int (o 0 7)) (C := RX5) (T := TX5) (N := 8) hx hb hts i5 hown hK hP 6 rfl rfl 0 (by decide) w1 (fun _ h9 => h9) rfl dX5_withMostAnger_10 ?_
      refine endI (r := nI N) (hN) ?_
      refine lv_icmp_ge (tgt := 81) hx hb dX5_withMostAnger_13 (by decide) (fun c13 => ?_) (fun c13 => ?_)
      ·
        have c13 : N ≤ k := (nI_leI (a := N) (b := k) (by omega) (by omega)).mp c13
        refine lv_iload_n hx hb dX5_withMostAnger_81 rfl (lv_at hl 2 rfl) ?_
        refine endI (r := oI (mostC o z N)) (by rw [maxF_done (by omega)] at hR; rw [← hR]) ?_
        exact hret ls _ dX5_withMostAnger_82
      ·
        have c13 : ¬ N ≤ k := fun h9 => c13 ((nI_leI (a := N) (b := k) (by omega) (by omega)).mpr h9)
        refine lv_aload_n hx hb dX5_withMostAnger_16 rfl (lv_at hl 3 rfl) ?_
        refine va_get (D := D) (ci := 5) (v := .ref (a 11)) (C := RX5) (T := TX5) (N := 8) hx hb hts i5 hown hK hP 6 rfl rfl 5 (by decide) w2 (fun _ h9 => h9) rfl dX5_withMostAnger_17 ?_
        refine lv_iload hx hb dX5_withMostAnger_20 (lv_at hl 0 rfl) ?_
        refine aldI hx hb hK hP 11 0 rfl rfl (k) rfl (by omega) (by decide) dX5_withMostAnger_22 ?_
        refine lv_if_ne (tgt := 45) hx hb dX5_withMostAnger_23 (by decide) (fun c23 => ?_) (fun c23 => ?_)
        ·
          refine lv_iconst (v := 0) hx hb dX5_withMostAnger_45 (by decide) ?_
          refine lv_istore (lv' := [(5, .int (0)), (4, .int (nI k)), (3, .int (x)), (2, .int (oI b)), (0, .ref (a 6)), (1, .int (z))]) hx hb dX5_withMostAnger_46 hl (by decide) rfl (fun ls hl => ?_)
          refine lv_iload hx hb dX5_withMostAnger_48 (lv_at hl 0 rfl) ?_
          refine lv_if_eq (tgt := 75) hx hb dX5_withMostAnger_50 (by decide) (fun c50 => ?_) (fun c50 => ?_)
          ·
            refine lv_iinc (v := nI (k + 1)) (lv' := [(4, .int (nI (k + 1))), (5, .int (0)), (3, .int (x)), (2, .int (oI b)), (0, .ref (a 6)), (1, .int (z))]) hx hb dX5_withMostAnger_75 hl (k := 1) rfl (nI_1 _) (by decide) rfl (fun ls hl => ?_)
            refine lv_goto (tgt := 7) hx hb dX5_withMostAnger_78 (by decide) ?_
            exact ih (k + 1) b x (by omega) (by omega) (by rw [maxF_step (by omega)] at hR; (first | have c13x := Int32.not_lt.mp c13 | have c13x := Int32.not_le.mp c13 | have c13x := Int32.not_lt.mpr c13 | have c13x := Int32.not_le.mpr c13 | have c13x := c13); (first | have c23x := Int32.not_lt.mp c23 | have c23x := Int32.not_le.mp c23 | have c23x := Int32.not_lt.mpr c23 | have c23x := Int32.not_le.mpr c23 | have c23x := c23); (first | have c50x := Int32.not_lt.mp c50 | have c50x := Int32.not_le.mp c50 | have c50x := Int32.not_lt.mpr c50 | have c50x := Int32.not_le.mpr c50 | have c50x := c50); split at hR <;> first | exact hR | (rename_i h9; exfalso; revert h9; simp [c13, c23, c50, c13x, c23x, c50x])) _ (lv_sub hl [0, 2, 3, 4, 5] rfl)
          ·
            exact absurd c50 (by decide)
        ·
          refine lv_iload_n hx hb dX5_withMostAnger_26 rfl (lv_at hl 4 rfl) ?_
          refine lv_aload_n hx hb dX5_withMostAnger_27 rfl (lv_at hl 3 rfl) ?_
          refine va_get (D := D) (ci := 5) (v := .ref (a 8)) (C := RX5) (T := TX5) (N := 8) hx hb hts i5 hown hK hP 6 rfl rfl 2 (by decide) w3 (fun _ h9 => h9) rfl dX5_withMostAnger_28 ?_
          refine lv_iload hx hb dX5_withMostAnger_31 (lv_at hl 0 rfl) ?_
          refine aldI hx hb hK hP 8 0 rfl rfl (k) rfl (by omega) (by decide) dX5_withMostAnger_33 ?_
          refine lv_ishr hx hb dX5_withMostAnger_34 ?_
          refine lv_iconst (v := 1) hx hb dX5_withMostAnger_35 (by decide) ?_
          refine lv_iand hx hb dX5_withMostAnger_36 ?_
          refine lv_iconst (v := 1) hx hb dX5_withMostAnger_37 (by decide) ?_
          refine lv_icmp_ne (tgt := 45) hx hb dX5_withMostAnger_38 (by decide) (fun c38 => ?_) (fun c38 => ?_)
          ·
            refine lv_iconst (v := 0) hx hb dX5_withMostAnger_45 (by decide) ?_
            refine lv_istore (lv' := [(5, .int (0)), (4, .int (nI k)), (3, .int (x)), (2, .int (oI b)), (0, .ref (a 6)), (1, .int (z))]) hx hb dX5_withMostAnger_46 hl (by decide) rfl (fun ls hl => ?_)
            refine lv_iload hx hb dX5_withMostAnger_48 (lv_at hl 0 rfl) ?_
            refine lv_if_eq (tgt := 75) hx hb dX5_withMostAnger_50 (by decide) (fun c50 => ?_) (fun c50 => ?_)
            ·
              refine lv_iinc (v := nI (k + 1)) (lv' := [(4, .int (nI (k + 1))), (5, .int (0)), (3, .int (x)), (2, .int (oI b)), (0, .ref (a 6)), (1, .int (z))]) hx hb dX5_withMostAnger_75 hl (k := 1) rfl (nI_1 _) (by decide) rfl (fun ls hl => ?_)
              refine lv_goto (tgt := 7) hx hb dX5_withMostAnger_78 (by decide) ?_
              exact ih (k + 1) b x (by omega) (by omega) (by rw [maxF_step (by omega)] at hR; (first | have c13x := Int32.not_lt.mp c13 | have c13x := Int32.not_le.mp c13 | have c13x := Int32.not_lt.mpr c13 | have c13x := Int32.not_le.mpr c13 | have c13x := c13); (first | have c23x := Int32.not_lt.mp c23 | have c23x := Int32.not_le.mp c23 | have c23x := Int32.not_lt.mpr c23 | have c23x := Int32.not_le.mpr c23 | have c23x := c23); (first | have c38x := Int32.not_lt.mp c38 | have c38x := Int32.not_le.mp c38 | have c38x := Int32.not_lt.mpr c38 | have c38x := Int32.not_le.mpr c38 | have c38x := c38); (first | have c50x := Int32.not_lt.mp c50 | have c50x := Int32.not_le.mp c50 | have c50x := Int32.not_lt.mpr c50 | have c50x := Int32.not_le.mpr c50 | have c50x := c50); split at hR <;> first | exact hR | (rename_i h9; exfalso; revert h9; simp [c13, c23, c38, c50, c13x, c23x, c38x, c50x])) _ (lv_sub hl [0, 2, 3, 4, 5] rfl)
            ·
              exact absurd c50 (by decide)
          ·
            refine lv_iconst (v := 1) hx hb dX5_withMostAnger_41 (by decide) ?_
            refine lv_goto (tgt := 46) hx hb dX5_withMostAnger_42 (by decide) ?_
            refine lv_istore (lv' := [(5, .int (1)), (4, .int (nI k)), (3, .int (x)), (2, .int (oI b)), (0, .ref (a 6)), (1, .int (z))]) hx hb dX5_withMostAnger_46 hl (by decide) rfl (fun ls hl => ?_)
            refine lv_iload hx hb dX5_withMostAnger_48 (lv_at hl 0 rfl) ?_
            refine lv_if_eq (tgt := 75) hx hb dX5_withMostAnger_50 (by decide) (fun c50 => ?_) (fun c50 => ?_)
            ·
              exact absurd c50 (by decide)
            ·
              refine lv_aload_n hx hb dX5_withMostAnger_53 rfl (lv_at hl 4 rfl) ?_
              refine va_get (D := D) (ci := 5) (v := .ref (a 9)) (C := RX5) (T := TX5) (N := 8) hx hb hts i5 hown hK hP 6 rfl rfl 3 (by decide) w4 (fun _ h9 => h9) rfl dX5_withMostAnger_54 ?_
              refine lv_iload hx hb dX5_withMostAnger_57 (lv_at hl 1 rfl) ?_
              refine aldI hx hb hK hP 9 0 rfl rfl (k) rfl (by omega) (by decide) dX5_withMostAnger_59 ?_
              refine lv_iload_n hx hb dX5_withMostAnger_60 rfl (lv_at hl 2 rfl) ?_
              refine lv_icmp_le (tgt := 75) hx hb dX5_withMostAnger_61 (by decide) (fun c61 => ?_) (fun c61 => ?_)
              ·
                refine lv_iinc (v := nI (k + 1)) (lv' := [(4, .int (nI (k + 1))), (5, .int (1)), (3, .int (x)), (2, .int (oI b)), (0, .ref (a 6)), (1, .int (z))]) hx hb dX5_withMostAnger_75 hl (k := 1) rfl (nI_1 _) (by decide) rfl (fun ls hl => ?_)
                refine lv_goto (tgt := 7) hx hb dX5_withMostAnger_78 (by decide) ?_
                exact ih (k + 1) b x (by omega) (by omega) (by rw [maxF_step (by omega)] at hR; (first | have c13x := Int32.not_lt.mp c13 | have c13x := Int32.not_le.mp c13 | have c13x := Int32.not_lt.mpr c13 | have c13x := Int32.not_le.mpr c13 | have c13x := c13); (first | have c23x := Int32.not_lt.mp c23 | have c23x := Int32.not_le.mp c23 | have c23x := Int32.not_lt.mpr c23 | have c23x := Int32.not_le.mpr c23 | have c23x := c23); (first | have c38x := Int32.not_lt.mp c38 | have c38x := Int32.not_le.mp c38 | have c38x := Int32.not_lt.mpr c38 | have c38x := Int32.not_le.mpr c38 | have c38x := c38); (first | have c50x := Int32.not_lt.mp c50 | have c50x := Int32.not_le.mp c50 | have c50x := Int32.not_lt.mpr c50 | have c50x := Int32.not_le.mpr c50 | have c50x := c50); (first | have c61x := Int32.not_lt.mp c61 | have c61x := Int32.not_le.mp c61 | have c61x := Int32.not_lt.mpr c61 | have c61x := Int32.not_le.mpr c61 | have c61x := c61); split at hR <;> first | exact hR | (rename_i h9; exfalso; revert h9; simp [c13, c23, c38, c50, c61, c13x, c23x, c38x, c50x, c61x])) _ (lv_sub hl [0, 2, 3, 4, 5] rfl)
              ·
                refine lv_aload_n hx hb dX5_withMostAnger_64 rfl (lv_at hl 4 rfl) ?_
                refine va_get (D := D) (ci := 5) (v := .ref (a 9)) (C := RX5) (T := TX5) (N := 8) hx hb hts i5 hown hK hP 6 rfl rfl 3 (by decide) w4 (fun _ h9 => h9) rfl dX5_withMostAnger_65 ?_
                refine lv_iload hx hb dX5_withMostAnger_68 (lv_at hl 1 rfl) ?_
                refine aldI hx hb hK hP 9 0 rfl rfl (k) rfl (by omega) (by decide) dX5_withMostAnger_70 ?_
                refine lv_istore_n (lv' := [(3, .int (o 6 k)), (5, .int (1)), (4, .int (nI k)), (2, .int (oI b)), (0, .ref (a 6)), (1, .int (z))]) hx hb dX5_withMostAnger_71 rfl hl (by decide) rfl (fun ls hl => ?_)
                refine lv_iload hx hb dX5_withMostAnger_72 (lv_at hl 2 rfl) ?_
                refine lv_istore_n (lv' := [(2, .int (nI k)), (3, .int (o 6 k)), (5, .int (1)), (4, .int (nI k)), (0, .ref (a 6)), (1, .int (z))]) hx hb dX5_withMostAnger_74 rfl hl (by decide) rfl (fun ls hl => ?_)
                refine lv_iinc (v := nI (k + 1)) (lv' := [(4, .int (nI (k + 1))), (2, .int (nI k)), (3, .int (o 6 k)), (5, .int (1)), (0, .ref (a 6)), (1, .int (z))]) hx hb dX5_withMostAnger_75 hl (k := 3) rfl (nI_1 _) (by decide) rfl (fun ls hl => ?_)
                refine lv_goto (tgt := 7) hx hb dX5_withMostAnger_78 (by decide) ?_
                exact ih (k + 1) (some k) (o 6 k) (by omega) (by omega) (by rw [maxF_step (by omega)] at hR; (first | have c13x := Int32.not_lt.mp c13 | have c13x := Int32.not_le.mp c13 | have c13x := Int32.not_lt.mpr c13 | have c13x := Int32.not_le.mpr c13 | have c13x := c13); (first | have c23x := Int32.not_lt.mp c23 | have c23x := Int32.not_le.mp c23 | have c23x := Int32.not_lt.mpr c23 | have c23x := Int32.not_le.mpr c23 | have c23x := c23); (first | have c38x := Int32.not_lt.mp c38 | have c38x := Int32.not_le.mp c38 | have c38x := Int32.not_lt.mpr c38 | have c38x := Int32.not_le.mpr c38 | have c38x := c38); (first | have c50x := Int32.not_lt.mp c50 | have c50x := Int32.not_le.mp c50 | have c50x := Int32.not_lt.mpr c50 | have c50x := Int32.not_le.mpr c50 | have c50x := c50); (first | have c61x := Int32.not_lt.mp c61 | have c61x := Int32.not_le.mp c61 | have c61x := Int32.not_lt.mpr c61 | have c61x := Int32.not_le.mpr c61 | have c61x := c61); split at hR <;> first | exact hR | (rename_i h9; exfalso; revert h9; simp [c13, c23, c38, c50, c61, c13x, c23x, c38x, c50x, c61x])) _ (lv_sub hl [0, 2, 1, 4, 5] rfl)
  exact L7 _ 0 none 0 (Nat.lt_succ_self _) (by omega) (by first | rfl | (simp; done)) _ (lv_sub hl [0, 1, 2, 3, 4] rfl)

set_option maxHeartbeats 4000000 in
set_option maxRecDepth 100000 in
theorem c_X5_countInState (l : Launch) (D : va_G) (T : Nat → ClassId) (a : Nat → Nat) (o : Nat → Nat → Int32) (z : Int32) (N : Nat) (hN : o 0 7 = nI N) (hN2 : N ≤ 24) : Met l yX5_countInState wsX5_countInState ({ frames := 0, cells := 0, slots := 0, locals := 0 } : Room) (va_Pc [.ref (a 6), .int (z)] (PR D T (OFF T a o))) (QcRead (cntI (fun k => decide (o 8 k = z)) N 0 0)) 0 0 (fun _ => False) := by
  refine metR (cc := cX5_countInState) (maxL := 4) (ty := .int) (by decide) rfl (by rfl) (Nat.le_of_ble_eq_true rfl) ?_
  intro p e s m args below meth c Q ls hx hb hml hown hts hP hK hl hret
  have hown : s.vm.findClass RX5 = some m.cls := hown
  have hl : lv_has ls 4 [(0, .ref (a 6)), (1, .int (z))] := hl
  have i5 : ∀ w ∈ wsX50, w ∈ wsX5_countInState := by decide +kernel
  have w1 := hts (Cond.fieldLink RX5 33 "MoonComplaintWindow$Pile" "total" "I") (List.mem_of_getElem? (i := 1) rfl)
  have w2 := hts (Cond.fieldLink RX5 24 "MoonComplaintWindow$Pile" "states" "[I") (List.mem_of_getElem? (i := 2) rfl)
  refine lv_iconst (v := 0) hx hb dX5_countInState_0 (by decide) ?_
  refine lv_istore_n (lv' := [(2, .int (0)), (0, .ref (a 6)), (1, .int (z))]) hx hb dX5_countInState_1 rfl hl (by decide) rfl (fun ls hl => ?_)
  refine lv_iconst (v := 0) hx hb dX5_countInState_2 (by decide) ?_
  refine lv_istore_n (lv' := [(3, .int (0)), (2, .int (0)), (0, .ref (a 6)), (1, .int (z))]) hx hb dX5_countInState_3 rfl hl (by decide) rfl (fun ls hl => ?_)
  have L4 : ∀ (n9 : Nat) (k : Nat) (x : Int32), (N - k) < n9 → (k ≤ N) → (cntI (fun k => decide (o 8 k = z)) (N - k) k x = cntI (fun k => decide (o 8 k = z)) N 0 0) → ∀ (ls : Array Slot), lv_has ls 4 [(3, .int (nI k)), (2, .int (x)), (0, .ref (a 6)), (1, .int (z))] → W p l e ({ frames := 0, cells := 0, slots := 0, locals := 0 } : Room) s m args below meth c s.heap [] 0 0 Q (F0 m 4 ls []) := by
    intro n9
    induction n9 with
    | zero => intro k x hm9; exact absurd hm9 (Nat.not_lt_zero _)
    | succ n9 ih =>
      intro k x hm9 hk9 hR ls hl
      refine lv_iload_n hx hb dX5_countInState_4 rfl (lv_at hl 0 rfl) ?_
      refine lv_aload_n hx hb dX5_countInState_5 rfl (lv_at hl 2 rfl) ?_
      refine va_get (D := D) (ci := 5) (v := .int (o 0 7)) (C := RX5) (T := TX5) (N := 8) hx hb hts i5 hown hK hP 6 rfl rfl 0 (by decide) w1 (fun _ h9 => h9) rfl dX5_countInState_6 ?_
      refine endI (r := nI N) (hN) ?_
      refine lv_icmp_ge (tgt := 31) hx hb dX5_countInState_9 (by decide) (fun c9 => ?_) (fun c9 => ?_)
      ·
        have c9 : N ≤ k := (nI_leI (a := N) (b := k) (by omega) (by omega)).mp c9
        refine lv_iload_n hx hb dX5_countInState_31 rfl (lv_at hl 1 rfl) ?_
        refine endI (r := cntI (fun k => decide (o 8 k = z)) N 0 0) (by rw [cntI_done (by omega)] at hR; exact hR) ?_
        exact hret ls _ dX5_countInState_32
      ·
        have c9 : ¬ N ≤ k := fun h9 => c9 ((nI_leI (a := N) (b := k) (by omega) (by omega)).mpr h9)
        refine lv_aload_n hx hb dX5_countInState_12 rfl (lv_at hl 2 rfl) ?_
        refine va_get (D := D) (ci := 5) (v := .ref (a 11)) (C := RX5) (T := TX5) (N := 8) hx hb hts i5 hown hK hP 6 rfl rfl 5 (by decide) w2 (fun _ h9 => h9) rfl dX5_countInState_13 ?_
        refine lv_iload_n hx hb dX5_countInState_16 rfl (lv_at hl 0 rfl) ?_
        refine aldI hx hb hK hP 11 0 rfl rfl (k) rfl (by omega) (by decide) dX5_countInState_17 ?_
        refine lv_iload_n hx hb dX5_countInState_18 rfl (lv_at hl 3 rfl) ?_
        refine lv_icmp_ne (tgt := 25) hx hb dX5_countInState_19 (by decide) (fun c19 => ?_) (fun c19 => ?_)
        ·
          refine lv_iinc (v := nI (k + 1)) (lv' := [(3, .int (nI (k + 1))), (2, .int (x)), (0, .ref (a 6)), (1, .int (z))]) hx hb dX5_countInState_25 hl (k := 0) rfl (nI_1 _) (by decide) rfl (fun ls hl => ?_)
          refine lv_goto (tgt := 4) hx hb dX5_countInState_28 (by decide) ?_
          exact ih (k + 1) x (by omega) (by omega) (by rw [cntI_step (by omega)] at hR; simpa [c9, c19] using hR) _ (lv_sub hl [0, 1, 2, 3] rfl)
        ·
          refine lv_iinc (v := x + 1) (lv' := [(2, .int (x + 1)), (3, .int (nI k)), (0, .ref (a 6)), (1, .int (z))]) hx hb dX5_countInState_22 hl (k := 1) rfl rfl (by decide) rfl (fun ls hl => ?_)
          refine lv_iinc (v := nI (k + 1)) (lv' := [(3, .int (nI (k + 1))), (2, .int (x + 1)), (0, .ref (a 6)), (1, .int (z))]) hx hb dX5_countInState_25 hl (k := 1) rfl (nI_1 _) (by decide) rfl (fun ls hl => ?_)
          refine lv_goto (tgt := 4) hx hb dX5_countInState_28 (by decide) ?_
          exact ih (k + 1) (x + 1) (by omega) (by omega) (by rw [cntI_step (by omega)] at hR; simpa [c9, c19] using hR) _ (lv_sub hl [0, 1, 2, 3] rfl)
  exact L4 _ 0 0 (Nat.lt_succ_self _) (by omega) (by first | rfl | (simp; done)) _ (lv_sub hl [0, 1, 2, 3] rfl)

set_option maxHeartbeats 4000000 in
set_option maxRecDepth 100000 in
theorem c_X5_countOfPerson (l : Launch) (D : va_G) (T : Nat → ClassId) (a : Nat → Nat) (o : Nat → Nat → Int32) (z : Int32) (N : Nat) (hN : o 0 7 = nI N) (hN2 : N ≤ 24) : Met l yX5_countOfPerson wsX5_countOfPerson ({ frames := 0, cells := 0, slots := 0, locals := 0 } : Room) (va_Pc [.ref (a 6), .int (z)] (PR D T (OFF T a o))) (QcRead (cntI (fun k => decide (o 4 k = z)) N 0 0)) 0 0 (fun _ => False) := by
  refine metR (cc := cX5_countOfPerson) (maxL := 4) (ty := .int) (by decide) rfl (by rfl) (Nat.le_of_ble_eq_true rfl) ?_
  intro p e s m args below meth c Q ls hx hb hml hown hts hP hK hl hret
  have hown : s.vm.findClass RX5 = some m.cls := hown
  have hl : lv_has ls 4 [(0, .ref (a 6)), (1, .int (z))] := hl
  have i5 : ∀ w ∈ wsX50, w ∈ wsX5_countOfPerson := by decide +kernel
  have w1 := hts (Cond.fieldLink RX5 33 "MoonComplaintWindow$Pile" "total" "I") (List.mem_of_getElem? (i := 1) rfl)
  have w2 := hts (Cond.fieldLink RX5 9 "MoonComplaintWindow$Pile" "persons" "[I") (List.mem_of_getElem? (i := 2) rfl)
  refine lv_iconst (v := 0) hx hb dX5_countOfPerson_0 (by decide) ?_
  refine lv_istore_n (lv' := [(2, .int (0)), (0, .ref (a 6)), (1, .int (z))]) hx hb dX5_countOfPerson_1 rfl hl (by decide) rfl (fun ls hl => ?_)
  refine lv_iconst (v := 0) hx hb dX5_countOfPerson_2 (by decide) ?_
  refine lv_istore_n (lv' := [(3, .int (0)), (2, .int (0)), (0, .ref (a 6)), (1, .int (z))]) hx hb dX5_countOfPerson_3 rfl hl (by decide) rfl (fun ls hl => ?_)
  have L4 : ∀ (n9 : Nat) (k : Nat) (x : Int32), (N - k) < n9 → (k ≤ N) → (cntI (fun k => decide (o 4 k = z)) (N - k) k x = cntI (fun k => decide (o 4 k = z)) N 0 0) → ∀ (ls : Array Slot), lv_has ls 4 [(3, .int (nI k)), (2, .int (x)), (0, .ref (a 6)), (1, .int (z))] → W p l e ({ frames := 0, cells := 0, slots := 0, locals := 0 } : Room) s m args below meth c s.heap [] 0 0 Q (F0 m 4 ls []) := by
    intro n9
    induction n9 with
    | zero => intro k x hm9; exact absurd hm9 (Nat.not_lt_zero _)
    | succ n9 ih =>
      intro k x hm9 hk9 hR ls hl
      refine lv_iload_n hx hb dX5_countOfPerson_4 rfl (lv_at hl 0 rfl) ?_
      refine lv_aload_n hx hb dX5_countOfPerson_5 rfl (lv_at hl 2 rfl) ?_
      refine va_get (D := D) (ci := 5) (v := .int (o 0 7)) (C := RX5) (T := TX5) (N := 8) hx hb hts i5 hown hK hP 6 rfl rfl 0 (by decide) w1 (fun _ h9 => h9) rfl dX5_countOfPerson_6 ?_
      refine endI (r := nI N) (hN) ?_
      refine lv_icmp_ge (tgt := 31) hx hb dX5_countOfPerson_9 (by decide) (fun c9 => ?_) (fun c9 => ?_)
      ·
        have c9 : N ≤ k := (nI_leI (a := N) (b := k) (by omega) (by omega)).mp c9
        refine lv_iload_n hx hb dX5_countOfPerson_31 rfl (lv_at hl 1 rfl) ?_
        refine endI (r := cntI (fun k => decide (o 4 k = z)) N 0 0) (by rw [cntI_done (by omega)] at hR; exact hR) ?_
        exact hret ls _ dX5_countOfPerson_32
      ·
        have c9 : ¬ N ≤ k := fun h9 => c9 ((nI_leI (a := N) (b := k) (by omega) (by omega)).mpr h9)
        refine lv_aload_n hx hb dX5_countOfPerson_12 rfl (lv_at hl 2 rfl) ?_
        refine va_get (D := D) (ci := 5) (v := .ref (a 7)) (C := RX5) (T := TX5) (N := 8) hx hb hts i5 hown hK hP 6 rfl rfl 1 (by decide) w2 (fun _ h9 => h9) rfl dX5_countOfPerson_13 ?_
        refine lv_iload_n hx hb dX5_countOfPerson_16 rfl (lv_at hl 0 rfl) ?_
        refine aldI hx hb hK hP 7 0 rfl rfl (k) rfl (by omega) (by decide) dX5_countOfPerson_17 ?_
        refine lv_iload_n hx hb dX5_countOfPerson_18 rfl (lv_at hl 3 rfl) ?_
        refine lv_icmp_ne (tgt := 25) hx hb dX5_countOfPerson_19 (by decide) (fun c19 => ?_) (fun c19 => ?_)
        ·
          refine lv_iinc (v := nI (k + 1)) (lv' := [(3, .int (nI (k + 1))), (2, .int (x)), (0, .ref (a 6)), (1, .int (z))]) hx hb dX5_countOfPerson_25 hl (k := 0) rfl (nI_1 _) (by decide) rfl (fun ls hl => ?_)
          refine lv_goto (tgt := 4) hx hb dX5_countOfPerson_28 (by decide) ?_
          exact ih (k + 1) x (by omega) (by omega) (by rw [cntI_step (by omega)] at hR; simpa [c9, c19] using hR) _ (lv_sub hl [0, 1, 2, 3] rfl)
        ·
          refine lv_iinc (v := x + 1) (lv' := [(2, .int (x + 1)), (3, .int (nI k)), (0, .ref (a 6)), (1, .int (z))]) hx hb dX5_countOfPerson_22 hl (k := 1) rfl rfl (by decide) rfl (fun ls hl => ?_)
          refine lv_iinc (v := nI (k + 1)) (lv' := [(3, .int (nI (k + 1))), (2, .int (x + 1)), (0, .ref (a 6)), (1, .int (z))]) hx hb dX5_countOfPerson_25 hl (k := 1) rfl (nI_1 _) (by decide) rfl (fun ls hl => ?_)
          refine lv_goto (tgt := 4) hx hb dX5_countOfPerson_28 (by decide) ?_
          exact ih (k + 1) (x + 1) (by omega) (by omega) (by rw [cntI_step (by omega)] at hR; simpa [c9, c19] using hR) _ (lv_sub hl [0, 1, 2, 3] rfl)
  exact L4 _ 0 0 (Nat.lt_succ_self _) (by omega) (by first | rfl | (simp; done)) _ (lv_sub hl [0, 1, 2, 3] rfl)

set_option maxHeartbeats 4000000 in
set_option maxRecDepth 100000 in
theorem c_X5_countAnsweredBy (l : Launch) (D : va_G) (T : Nat → ClassId) (a : Nat → Nat) (o : Nat → Nat → Int32) (z : Int32) (N : Nat) (hN : o 0 7 = nI N) (hN2 : N ≤ 24) : Met l yX5_countAnsweredBy wsX5_countAnsweredBy ({ frames := 0, cells := 0, slots := 0, locals := 0 } : Room) (va_Pc [.ref (a 6), .int (z)] (PR D T (OFF T a o))) (QcRead (cntI (fun k => decide (o 8 k = 1) && decide (o 10 k = z)) N 0 0)) 0 0 (fun _ => False) := by
  refine metR (cc := cX5_countAnsweredBy) (maxL := 4) (ty := .int) (by decide) rfl (by rfl) (Nat.le_of_ble_eq_true rfl) ?_
  intro p e s m args below meth c Q ls hx hb hml hown hts hP hK hl hret
  have hown : s.vm.findClass RX5 = some m.cls := hown
  have hl : lv_has ls 4 [(0, .ref (a 6)), (1, .int (z))] := hl
  have i5 : ∀ w ∈ wsX50, w ∈ wsX5_countAnsweredBy := by decide +kernel
  have w1 := hts (Cond.fieldLink RX5 33 "MoonComplaintWindow$Pile" "total" "I") (List.mem_of_getElem? (i := 1) rfl)
  have w2 := hts (Cond.fieldLink RX5 24 "MoonComplaintWindow$Pile" "states" "[I") (List.mem_of_getElem? (i := 2) rfl)
  have w3 := hts (Cond.fieldLink RX5 30 "MoonComplaintWindow$Pile" "clerks" "[I") (List.mem_of_getElem? (i := 3) rfl)
  refine lv_iconst (v := 0) hx hb dX5_countAnsweredBy_0 (by decide) ?_
  refine lv_istore_n (lv' := [(2, .int (0)), (0, .ref (a 6)), (1, .int (z))]) hx hb dX5_countAnsweredBy_1 rfl hl (by decide) rfl (fun ls hl => ?_)
  refine lv_iconst (v := 0) hx hb dX5_countAnsweredBy_2 (by decide) ?_
  refine lv_istore_n (lv' := [(3, .int (0)), (2, .int (0)), (0, .ref (a 6)), (1, .int (z))]) hx hb dX5_countAnsweredBy_3 rfl hl (by decide) rfl (fun ls hl => ?_)
  have L4 : ∀ (n9 : Nat) (k : Nat) (x : Int32), (N - k) < n9 → (k ≤ N) → (cntI (fun k => decide (o 8 k = 1) && decide (o 10 k = z)) (N - k) k x = cntI (fun k => decide (o 8 k = 1) && decide (o 10 k = z)) N 0 0) → ∀ (ls : Array Slot), lv_has ls 4 [(3, .int (nI k)), (2, .int (x)), (0, .ref (a 6)), (1, .int (z))] → W p l e ({ frames := 0, cells := 0, slots := 0, locals := 0 } : Room) s m args below meth c s.heap [] 0 0 Q (F0 m 4 ls []) := by
    intro n9
    induction n9 with
    | zero => intro k x hm9; exact absurd hm9 (Nat.not_lt_zero _)
    | succ n9 ih =>
      intro k x hm9 hk9 hR ls hl
      refine lv_iload_n hx hb dX5_countAnsweredBy_4 rfl (lv_at hl 0 rfl) ?_
      refine lv_aload_n hx hb dX5_countAnsweredBy_5 rfl (lv_at hl 2 rfl) ?_
      refine va_get (D := D) (ci := 5) (v := .int (o 0 7)) (C := RX5) (T := TX5) (N := 8) hx hb hts i5 hown hK hP 6 rfl rfl 0 (by decide) w1 (fun _ h9 => h9) rfl dX5_countAnsweredBy_6 ?_
      refine endI (r := nI N) (hN) ?_
      refine lv_icmp_ge (tgt := 41) hx hb dX5_countAnsweredBy_9 (by decide) (fun c9 => ?_) (fun c9 => ?_)
      ·
        have c9 : N ≤ k := (nI_leI (a := N) (b := k) (by omega) (by omega)).mp c9
        refine lv_iload_n hx hb dX5_countAnsweredBy_41 rfl (lv_at hl 1 rfl) ?_
        refine endI (r := cntI (fun k => decide (o 8 k = 1) && decide (o 10 k = z)) N 0 0) (by rw [cntI_done (by omega)] at hR; exact hR) ?_
        exact hret ls _ dX5_countAnsweredBy_42
      ·
        have c9 : ¬ N ≤ k := fun h9 => c9 ((nI_leI (a := N) (b := k) (by omega) (by omega)).mpr h9)
        refine lv_aload_n hx hb dX5_countAnsweredBy_12 rfl (lv_at hl 2 rfl) ?_
        refine va_get (D := D) (ci := 5) (v := .ref (a 11)) (C := RX5) (T := TX5) (N := 8) hx hb hts i5 hown hK hP 6 rfl rfl 5 (by decide) w2 (fun _ h9 => h9) rfl dX5_countAnsweredBy_13 ?_
        refine lv_iload_n hx hb dX5_countAnsweredBy_16 rfl (lv_at hl 0 rfl) ?_
        refine aldI hx hb hK hP 11 0 rfl rfl (k) rfl (by omega) (by decide) dX5_countAnsweredBy_17 ?_
        refine lv_iconst (v := 1) hx hb dX5_countAnsweredBy_18 (by decide) ?_
        refine lv_icmp_ne (tgt := 35) hx hb dX5_countAnsweredBy_19 (by decide) (fun c19 => ?_) (fun c19 => ?_)
        ·
          refine lv_iinc (v := nI (k + 1)) (lv' := [(3, .int (nI (k + 1))), (2, .int (x)), (0, .ref (a 6)), (1, .int (z))]) hx hb dX5_countAnsweredBy_35 hl (k := 0) rfl (nI_1 _) (by decide) rfl (fun ls hl => ?_)
          refine lv_goto (tgt := 4) hx hb dX5_countAnsweredBy_38 (by decide) ?_
          exact ih (k + 1) x (by omega) (by omega) (by rw [cntI_step (by omega)] at hR; simpa [c9, c19] using hR) _ (lv_sub hl [0, 1, 2, 3] rfl)
        ·
          refine lv_aload_n hx hb dX5_countAnsweredBy_22 rfl (lv_at hl 2 rfl) ?_
          refine va_get (D := D) (ci := 5) (v := .ref (a 13)) (C := RX5) (T := TX5) (N := 8) hx hb hts i5 hown hK hP 6 rfl rfl 7 (by decide) w3 (fun _ h9 => h9) rfl dX5_countAnsweredBy_23 ?_
          refine lv_iload_n hx hb dX5_countAnsweredBy_26 rfl (lv_at hl 0 rfl) ?_
          refine aldI hx hb hK hP 13 0 rfl rfl (k) rfl (by omega) (by decide) dX5_countAnsweredBy_27 ?_
          refine lv_iload_n hx hb dX5_countAnsweredBy_28 rfl (lv_at hl 3 rfl) ?_
          refine lv_icmp_ne (tgt := 35) hx hb dX5_countAnsweredBy_29 (by decide) (fun c29 => ?_) (fun c29 => ?_)
          ·
            refine lv_iinc (v := nI (k + 1)) (lv' := [(3, .int (nI (k + 1))), (2, .int (x)), (0, .ref (a 6)), (1, .int (z))]) hx hb dX5_countAnsweredBy_35 hl (k := 0) rfl (nI_1 _) (by decide) rfl (fun ls hl => ?_)
            refine lv_goto (tgt := 4) hx hb dX5_countAnsweredBy_38 (by decide) ?_
            exact ih (k + 1) x (by omega) (by omega) (by rw [cntI_step (by omega)] at hR; simpa [c9, c19, c29] using hR) _ (lv_sub hl [0, 1, 2, 3] rfl)
          ·
            refine lv_iinc (v := x + 1) (lv' := [(2, .int (x + 1)), (3, .int (nI k)), (0, .ref (a 6)), (1, .int (z))]) hx hb dX5_countAnsweredBy_32 hl (k := 1) rfl rfl (by decide) rfl (fun ls hl => ?_)
            refine lv_iinc (v := nI (k + 1)) (lv' := [(3, .int (nI (k + 1))), (2, .int (x + 1)), (0, .ref (a 6)), (1, .int (z))]) hx hb dX5_countAnsweredBy_35 hl (k := 1) rfl (nI_1 _) (by decide) rfl (fun ls hl => ?_)
            refine lv_goto (tgt := 4) hx hb dX5_countAnsweredBy_38 (by decide) ?_
            exact ih (k + 1) (x + 1) (by omega) (by omega) (by rw [cntI_step (by omega)] at hR; simpa [c9, c19, c29] using hR) _ (lv_sub hl [0, 1, 2, 3] rfl)
  exact L4 _ 0 0 (Nat.lt_succ_self _) (by omega) (by first | rfl | (simp; done)) _ (lv_sub hl [0, 1, 2, 3] rfl)

set_option maxHeartbeats 4000000 in
set_option maxRecDepth 100000 in
theorem c_X5_sumAnsweredAnger (l : Launch) (D : va_G) (T : Nat → ClassId) (a : Nat → Nat) (o : Nat → Nat → Int32) (N : Nat) (hN : o 0 7 = nI N) (hN2 : N ≤ 24) : Met l yX5_sumAnsweredAnger wsX5_sumAnsweredAnger ({ frames := 0, cells := 0, slots := 0, locals := 0 } : Room) (va_Pc [.ref (a 6)] (PR D T (OFF T a o))) (QcRead (sumI (fun k => decide (o 8 k = 1)) (fun k => o 6 k) N 0 0)) 0 0 (fun _ => False) := by
  refine metR (cc := cX5_sumAnsweredAnger) (maxL := 3) (ty := .int) (by decide) rfl (by rfl) (Nat.le_of_ble_eq_true rfl) ?_
  intro p e s m args below meth c Q ls hx hb hml hown hts hP hK hl hret
  have hown : s.vm.findClass RX5 = some m.cls := hown
  have hl : lv_has ls 3 [(0, .ref (a 6))] := hl
  have i5 : ∀ w ∈ wsX50, w ∈ wsX5_sumAnsweredAnger := by decide +kernel
  have w1 := hts (Cond.fieldLink RX5 33 "MoonComplaintWindow$Pile" "total" "I") (List.mem_of_getElem? (i := 1) rfl)
  have w2 := hts (Cond.fieldLink RX5 24 "MoonComplaintWindow$Pile" "states" "[I") (List.mem_of_getElem? (i := 2) rfl)
  have w3 := hts (Cond.fieldLink RX5 18 "MoonComplaintWindow$Pile" "angers" "[I") (List.mem_of_getElem? (i := 3) rfl)
  refine lv_iconst (v := 0) hx hb dX5_sumAnsweredAnger_0 (by decide) ?_
  refine lv_istore_n (lv' := [(1, .int (0)), (0, .ref (a 6))]) hx hb dX5_sumAnsweredAnger_1 rfl hl (by decide) rfl (fun ls hl => ?_)
  refine lv_iconst (v := 0) hx hb dX5_sumAnsweredAnger_2 (by decide) ?_
  refine lv_istore_n (lv' := [(2, .int (0)), (1, .int (0)), (0, .ref (a 6))]) hx hb dX5_sumAnsweredAnger_3 rfl hl (by decide) rfl (fun ls hl => ?_)
  have L4 : ∀ (n9 : Nat) (k : Nat) (x : Int32), (N - k) < n9 → (k ≤ N) → (sumI (fun k => decide (o 8 k = 1)) (fun k => o 6 k) (N - k) k x = sumI (fun k => decide (o 8 k = 1)) (fun k => o 6 k) N 0 0) → ∀ (ls : Array Slot), lv_has ls 3 [(2, .int (nI k)), (1, .int (x)), (0, .ref (a 6))] → W p l e ({ frames := 0, cells := 0, slots := 0, locals := 0 } : Room) s m args below meth c s.heap [] 0 0 Q (F0 m 4 ls []) := by
    intro n9
    induction n9 with
    | zero => intro k x hm9; exact absurd hm9 (Nat.not_lt_zero _)
    | succ n9 ih =>
      intro k x hm9 hk9 hR ls hl
      refine lv_iload_n hx hb dX5_sumAnsweredAnger_4 rfl (lv_at hl 0 rfl) ?_
      refine lv_aload_n hx hb dX5_sumAnsweredAnger_5 rfl (lv_at hl 2 rfl) ?_
      refine va_get (D := D) (ci := 5) (v := .int (o 0 7)) (C := RX5) (T := TX5) (N := 8) hx hb hts i5 hown hK hP 6 rfl rfl 0 (by decide) w1 (fun _ h9 => h9) rfl dX5_sumAnsweredAnger_6 ?_
      refine endI (r := nI N) (hN) ?_
      refine lv_icmp_ge (tgt := 37) hx hb dX5_sumAnsweredAnger_9 (by decide) (fun c9 => ?_) (fun c9 => ?_)
      ·
        have c9 : N ≤ k := (nI_leI (a := N) (b := k) (by omega) (by omega)).mp c9
        refine lv_iload_n hx hb dX5_sumAnsweredAnger_37 rfl (lv_at hl 1 rfl) ?_
        refine endI (r := sumI (fun k => decide (o 8 k = 1)) (fun k => o 6 k) N 0 0) (by rw [sumI_done (by omega)] at hR; exact hR) ?_
        exact hret ls _ dX5_sumAnsweredAnger_38
      ·
        have c9 : ¬ N ≤ k := fun h9 => c9 ((nI_leI (a := N) (b := k) (by omega) (by omega)).mpr h9)
        refine lv_aload_n hx hb dX5_sumAnsweredAnger_12 rfl (lv_at hl 2 rfl) ?_
        refine va_get (D := D) (ci := 5) (v := .ref (a 11)) (C := RX5) (T := TX5) (N := 8) hx hb hts i5 hown hK hP 6 rfl rfl 5 (by decide) w2 (fun _ h9 => h9) rfl dX5_sumAnsweredAnger_13 ?_
        refine lv_iload_n hx hb dX5_sumAnsweredAnger_16 rfl (lv_at hl 0 rfl) ?_
        refine aldI hx hb hK hP 11 0 rfl rfl (k) rfl (by omega) (by decide) dX5_sumAnsweredAnger_17 ?_
        refine lv_iconst (v := 1) hx hb dX5_sumAnsweredAnger_18 (by decide) ?_
        refine lv_icmp_ne (tgt := 31) hx hb dX5_sumAnsweredAnger_19 (by decide) (fun c19 => ?_) (fun c19 => ?_)
        ·
          refine lv_iinc (v := nI (k + 1)) (lv' := [(2, .int (nI (k + 1))), (1, .int (x)), (0, .ref (a 6))]) hx hb dX5_sumAnsweredAnger_31 hl (k := 0) rfl (nI_1 _) (by decide) rfl (fun ls hl => ?_)
          refine lv_goto (tgt := 4) hx hb dX5_sumAnsweredAnger_34 (by decide) ?_
          exact ih (k + 1) x (by omega) (by omega) (by rw [sumI_step (by omega)] at hR; simpa [c9, c19] using hR) _ (lv_sub hl [0, 1, 2] rfl)
        ·
          refine lv_iload_n hx hb dX5_sumAnsweredAnger_22 rfl (lv_at hl 1 rfl) ?_
          refine lv_aload_n hx hb dX5_sumAnsweredAnger_23 rfl (lv_at hl 2 rfl) ?_
          refine va_get (D := D) (ci := 5) (v := .ref (a 9)) (C := RX5) (T := TX5) (N := 8) hx hb hts i5 hown hK hP 6 rfl rfl 3 (by decide) w3 (fun _ h9 => h9) rfl dX5_sumAnsweredAnger_24 ?_
          refine lv_iload_n hx hb dX5_sumAnsweredAnger_27 rfl (lv_at hl 0 rfl) ?_
          refine aldI hx hb hK hP 9 0 rfl rfl (k) rfl (by omega) (by decide) dX5_sumAnsweredAnger_28 ?_
          refine lv_iadd hx hb dX5_sumAnsweredAnger_29 ?_
          refine lv_istore_n (lv' := [(1, .int (x + (o 6 k))), (2, .int (nI k)), (0, .ref (a 6))]) hx hb dX5_sumAnsweredAnger_30 rfl hl (by decide) rfl (fun ls hl => ?_)
          refine lv_iinc (v := nI (k + 1)) (lv' := [(2, .int (nI (k + 1))), (1, .int (x + (o 6 k))), (0, .ref (a 6))]) hx hb dX5_sumAnsweredAnger_31 hl (k := 1) rfl (nI_1 _) (by decide) rfl (fun ls hl => ?_)
          refine lv_goto (tgt := 4) hx hb dX5_sumAnsweredAnger_34 (by decide) ?_
          exact ih (k + 1) (x + (o 6 k)) (by omega) (by omega) (by rw [sumI_step (by omega)] at hR; simpa [c9, c19] using hR) _ (lv_sub hl [0, 1, 2] rfl)
  exact L4 _ 0 0 (Nat.lt_succ_self _) (by omega) (by first | rfl | (simp; done)) _ (lv_sub hl [0, 1, 2] rfl)

set_option maxHeartbeats 4000000 in
set_option maxRecDepth 100000 in
theorem c_X5_sumAnsweredWait (l : Launch) (D : va_G) (T : Nat → ClassId) (a : Nat → Nat) (o : Nat → Nat → Int32) (N : Nat) (hN : o 0 7 = nI N) (hN2 : N ≤ 24) : Met l yX5_sumAnsweredWait wsX5_sumAnsweredWait ({ frames := 0, cells := 0, slots := 0, locals := 0 } : Room) (va_Pc [.ref (a 6)] (PR D T (OFF T a o))) (QcRead (sumI (fun k => decide (o 8 k = 1)) (fun k => o 9 k - o 7 k) N 0 0)) 0 0 (fun _ => False) := by
  refine metR (cc := cX5_sumAnsweredWait) (maxL := 3) (ty := .int) (by decide) rfl (by rfl) (Nat.le_of_ble_eq_true rfl) ?_
  intro p e s m args below meth c Q ls hx hb hml hown hts hP hK hl hret
  have hown : s.vm.findClass RX5 = some m.cls := hown
  have hl : lv_has ls 3 [(0, .ref (a 6))] := hl
  have i5 : ∀ w ∈ wsX50, w ∈ wsX5_sumAnsweredWait := by decide +kernel
  have w1 := hts (Cond.fieldLink RX5 33 "MoonComplaintWindow$Pile" "total" "I") (List.mem_of_getElem? (i := 1) rfl)
  have w2 := hts (Cond.fieldLink RX5 24 "MoonComplaintWindow$Pile" "states" "[I") (List.mem_of_getElem? (i := 2) rfl)
  have w3 := hts (Cond.fieldLink RX5 27 "MoonComplaintWindow$Pile" "closed" "[I") (List.mem_of_getElem? (i := 3) rfl)
  have w4 := hts (Cond.fieldLink RX5 21 "MoonComplaintWindow$Pile" "filed" "[I") (List.mem_of_getElem? (i := 4) rfl)
  refine lv_iconst (v := 0) hx hb dX5_sumAnsweredWait_0 (by decide) ?_
  refine lv_istore_n (lv' := [(1, .int (0)), (0, .ref (a 6))]) hx hb dX5_sumAnsweredWait_1 rfl hl (by decide) rfl (fun ls hl => ?_)
  refine lv_iconst (v := 0) hx hb dX5_sumAnsweredWait_2 (by decide) ?_
  refine lv_istore_n (lv' := [(2, .int (0)), (1, .int (0)), (0, .ref (a 6))]) hx hb dX5_sumAnsweredWait_3 rfl hl (by decide) rfl (fun ls hl => ?_)
  have L4 : ∀ (n9 : Nat) (k : Nat) (x : Int32), (N - k) < n9 → (k ≤ N) → (sumI (fun k => decide (o 8 k = 1)) (fun k => o 9 k - o 7 k) (N - k) k x = sumI (fun k => decide (o 8 k = 1)) (fun k => o 9 k - o 7 k) N 0 0) → ∀ (ls : Array Slot), lv_has ls 3 [(2, .int (nI k)), (1, .int (x)), (0, .ref (a 6))] → W p l e ({ frames := 0, cells := 0, slots := 0, locals := 0 } : Room) s m args below meth c s.heap [] 0 0 Q (F0 m 4 ls []) := by
    intro n9
    induction n9 with
    | zero => intro k x hm9; exact absurd hm9 (Nat.not_lt_zero _)
    | succ n9 ih =>
      intro k x hm9 hk9 hR ls hl
      refine lv_iload_n hx hb dX5_sumAnsweredWait_4 rfl (lv_at hl 0 rfl) ?_
      refine lv_aload_n hx hb dX5_sumAnsweredWait_5 rfl (lv_at hl 2 rfl) ?_
      refine va_get (D := D) (ci := 5) (v := .int (o 0 7)) (C := RX5) (T := TX5) (N := 8) hx hb hts i5 hown hK hP 6 rfl rfl 0 (by decide) w1 (fun _ h9 => h9) rfl dX5_sumAnsweredWait_6 ?_
      refine endI (r := nI N) (hN) ?_
      refine lv_icmp_ge (tgt := 44) hx hb dX5_sumAnsweredWait_9 (by decide) (fun c9 => ?_) (fun c9 => ?_)
      ·
        have c9 : N ≤ k := (nI_leI (a := N) (b := k) (by omega) (by omega)).mp c9
        refine lv_iload_n hx hb dX5_sumAnsweredWait_44 rfl (lv_at hl 1 rfl) ?_
        refine endI (r := sumI (fun k => decide (o 8 k = 1)) (fun k => o 9 k - o 7 k) N 0 0) (by rw [sumI_done (by omega)] at hR; exact hR) ?_
        exact hret ls _ dX5_sumAnsweredWait_45
      ·
        have c9 : ¬ N ≤ k := fun h9 => c9 ((nI_leI (a := N) (b := k) (by omega) (by omega)).mpr h9)
        refine lv_aload_n hx hb dX5_sumAnsweredWait_12 rfl (lv_at hl 2 rfl) ?_
        refine va_get (D := D) (ci := 5) (v := .ref (a 11)) (C := RX5) (T := TX5) (N := 8) hx hb hts i5 hown hK hP 6 rfl rfl 5 (by decide) w2 (fun _ h9 => h9) rfl dX5_sumAnsweredWait_13 ?_
        refine lv_iload_n hx hb dX5_sumAnsweredWait_16 rfl (lv_at hl 0 rfl) ?_
        refine aldI hx hb hK hP 11 0 rfl rfl (k) rfl (by omega) (by decide) dX5_sumAnsweredWait_17 ?_
        refine lv_iconst (v := 1) hx hb dX5_sumAnsweredWait_18 (by decide) ?_
        refine lv_icmp_ne (tgt := 38) hx hb dX5_sumAnsweredWait_19 (by decide) (fun c19 => ?_) (fun c19 => ?_)
        ·
          refine lv_iinc (v := nI (k + 1)) (lv' := [(2, .int (nI (k + 1))), (1, .int (x)), (0, .ref (a 6))]) hx hb dX5_sumAnsweredWait_38 hl (k := 0) rfl (nI_1 _) (by decide) rfl (fun ls hl => ?_)
          refine lv_goto (tgt := 4) hx hb dX5_sumAnsweredWait_41 (by decide) ?_
          exact ih (k + 1) x (by omega) (by omega) (by rw [sumI_step (by omega)] at hR; simpa [c9, c19] using hR) _ (lv_sub hl [0, 1, 2] rfl)
        ·
          refine lv_iload_n hx hb dX5_sumAnsweredWait_22 rfl (lv_at hl 1 rfl) ?_
          refine lv_aload_n hx hb dX5_sumAnsweredWait_23 rfl (lv_at hl 2 rfl) ?_
          refine va_get (D := D) (ci := 5) (v := .ref (a 12)) (C := RX5) (T := TX5) (N := 8) hx hb hts i5 hown hK hP 6 rfl rfl 6 (by decide) w3 (fun _ h9 => h9) rfl dX5_sumAnsweredWait_24 ?_
          refine lv_iload_n hx hb dX5_sumAnsweredWait_27 rfl (lv_at hl 0 rfl) ?_
          refine aldI hx hb hK hP 12 0 rfl rfl (k) rfl (by omega) (by decide) dX5_sumAnsweredWait_28 ?_
          refine lv_aload_n hx hb dX5_sumAnsweredWait_29 rfl (lv_at hl 2 rfl) ?_
          refine va_get (D := D) (ci := 5) (v := .ref (a 10)) (C := RX5) (T := TX5) (N := 8) hx hb hts i5 hown hK hP 6 rfl rfl 4 (by decide) w4 (fun _ h9 => h9) rfl dX5_sumAnsweredWait_30 ?_
          refine lv_iload_n hx hb dX5_sumAnsweredWait_33 rfl (lv_at hl 0 rfl) ?_
          refine aldI hx hb hK hP 10 0 rfl rfl (k) rfl (by omega) (by decide) dX5_sumAnsweredWait_34 ?_
          refine lv_isub hx hb dX5_sumAnsweredWait_35 ?_
          refine lv_iadd hx hb dX5_sumAnsweredWait_36 ?_
          refine lv_istore_n (lv' := [(1, .int (x + ((o 9 k) - (o 7 k)))), (2, .int (nI k)), (0, .ref (a 6))]) hx hb dX5_sumAnsweredWait_37 rfl hl (by decide) rfl (fun ls hl => ?_)
          refine lv_iinc (v := nI (k + 1)) (lv' := [(2, .int (nI (k + 1))), (1, .int (x + ((o 9 k) - (o 7 k)))), (0, .ref (a 6))]) hx hb dX5_sumAnsweredWait_38 hl (k := 1) rfl (nI_1 _) (by decide) rfl (fun ls hl => ?_)
          refine lv_goto (tgt := 4) hx hb dX5_sumAnsweredWait_41 (by decide) ?_
          exact ih (k + 1) (x + ((o 9 k) - (o 7 k))) (by omega) (by omega) (by rw [sumI_step (by omega)] at hR; simpa [c9, c19] using hR) _ (lv_sub hl [0, 1, 2] rfl)
  exact L4 _ 0 0 (Nat.lt_succ_self _) (by omega) (by first | rfl | (simp; done)) _ (lv_sub hl [0, 1, 2] rfl)

set_option maxHeartbeats 4000000 in
set_option maxRecDepth 100000 in
theorem c_X5_growOlder (l : Launch) (D : va_G) (T : Nat → ClassId) (a : Nat → Nat) (o : Nat → Nat → Int32) (z : Int32) (N : Nat) (hN : o 0 7 = nI N) (hN2 : N ≤ 24) (sz : Nat) : Met l yX5_growOlder wsX5_growOlder ({ frames := 2, cells := 0, slots := 0, locals := 45 } : Room) (va_Pc [.ref (a 6), .int (z)] (PS D T (OFF T a o) sz)) (va_Qv (fun (_ : Unit) => True) (fun _ t => QS D T (va_A (OFF T a o) sz) (OFF T a (iter (growC z) N 0 o)) t) (va_A (OFF T a o) sz)) 0 0 (va_A (OFF T a o) sz) := by
  refine metSv (cc := cX5_growOlder) (maxL := 4) (by decide) rfl (Nat.le_of_ble_eq_true rfl) ?_
  intro p e s m args below meth c Q ls A hx hb hml hown hts hP hK hD hA hS hl hret
  have hown : s.vm.findClass RX5 = some m.cls := hown
  have hl : lv_has ls 4 [(0, .ref (a 6)), (1, .int (z))] := hl
  have i5 : ∀ w ∈ wsX50, w ∈ wsX5_growOlder := by decide +kernel
  have w1 := hts (Cond.fieldLink RX5 33 "MoonComplaintWindow$Pile" "total" "I") (List.mem_of_getElem? (i := 1) rfl)
  have w2 := hts (Cond.fieldLink RX5 24 "MoonComplaintWindow$Pile" "states" "[I") (List.mem_of_getElem? (i := 2) rfl)
  have w3 := hts (Cond.fieldLink RX5 21 "MoonComplaintWindow$Pile" "filed" "[I") (List.mem_of_getElem? (i := 3) rfl)
  have w4 := hts (Cond.fieldLink RX5 18 "MoonComplaintWindow$Pile" "angers" "[I") (List.mem_of_getElem? (i := 4) rfl)
  have w5 := hts (Cond.methodLink RX5 45 Lib.Math.min.name) (List.mem_of_getElem? (i := 5) rfl)
  have w6 := hts (Cond.static Lib.Math.min.name) (List.mem_of_getElem? (i := 6) rfl)
  have w7 := hts (Cond.initialized "java/lang/Math") (List.mem_of_getElem? (i := 7) rfl)
  have w8 := hts (Cond.code Lib.Math.min.name Lib.Math.min.code 2 (some .int)) (List.mem_of_getElem? (i := 8) rfl)
  refine lv_iconst (v := 0) hx hb dX5_growOlder_0 (by decide) ?_
  refine lv_istore_n (lv' := [(2, .int (0)), (0, .ref (a 6)), (1, .int (z))]) hx hb dX5_growOlder_1 rfl hl (by decide) rfl (fun ls hl => ?_)
  have L2 : ∀ (n9 : Nat) (k : Nat) (o1 : Nat → Nat → Int32), (N - k) < n9 → (k ≤ N) → (iter (growC z) (N - k) k o1 = iter (growC z) N 0 o) → (o1 0 7 = nI N) → ∀ (H : Heap) (locs : List Loc) (ls : Array Slot), va_P D vwCl (OFF T a o1) H → va_D A (OFF T a o1) → va_S A s.heap H locs → lv_has ls 4 [(2, .int (nI k)), (0, .ref (a 6)), (1, .int (z))] → W p l e ({ frames := 2, cells := 0, slots := 0, locals := 45 } : Room) s m args below meth c H locs 0 0 Q (F0 m 2 ls []) := by
    intro n9
    induction n9 with
    | zero => intro k o1 hm9; exact absurd hm9 (Nat.not_lt_zero _)
    | succ n9 ih =>
      intro k o1 hm9 hk9 hR hN1 H locs ls hP hD hS hl
      refine lv_iload_n hx hb dX5_growOlder_2 rfl (lv_at hl 0 rfl) ?_
      refine lv_aload_n hx hb dX5_growOlder_3 rfl (lv_at hl 1 rfl) ?_
      refine va_get (D := D) (ci := 5) (v := .int (o1 0 7)) (C := RX5) (T := TX5) (N := 8) hx hb hts i5 hown hK hP 6 rfl rfl 0 (by decide) w1 (fun _ h9 => h9) rfl dX5_growOlder_4 ?_
      refine endI (r := nI N) (hN1) ?_
      refine lv_icmp_ge (tgt := 74) hx hb dX5_growOlder_7 (by decide) (fun c7 => ?_) (fun c7 => ?_)
      ·
        have c7 : N ≤ k := (nI_leI (a := N) (b := k) (by omega) (by omega)).mp c7
        have hE : o1 = iter (growC z) N 0 o := by rw [iter_done (by omega)] at hR; exact hR
        exact hret _ _ _ _ dX5_growOlder_74 (by rw [← hE]; exact hP) (by rw [← hE]; exact hD) hS
      ·
        have c7 : ¬ N ≤ k := fun h9 => c7 ((nI_leI (a := N) (b := k) (by omega) (by omega)).mpr h9)
        refine lv_aload_n hx hb dX5_growOlder_10 rfl (lv_at hl 1 rfl) ?_
        refine va_get (D := D) (ci := 5) (v := .ref (a 11)) (C := RX5) (T := TX5) (N := 8) hx hb hts i5 hown hK hP 6 rfl rfl 5 (by decide) w2 (fun _ h9 => h9) rfl dX5_growOlder_11 ?_
        refine lv_iload_n hx hb dX5_growOlder_14 rfl (lv_at hl 0 rfl) ?_
        refine aldI hx hb hK hP 11 0 rfl rfl (k) rfl (by omega) (by decide) dX5_growOlder_15 ?_
        refine lv_if_ne (tgt := 68) hx hb dX5_growOlder_16 (by decide) (fun c16 => ?_) (fun c16 => ?_)
        ·
          refine lv_iinc (v := nI (k + 1)) (lv' := [(2, .int (nI (k + 1))), (0, .ref (a 6)), (1, .int (z))]) hx hb dX5_growOlder_68 hl (k := 0) rfl (nI_1 _) (by decide) rfl (fun ls hl => ?_)
          refine lv_goto (tgt := 2) hx hb dX5_growOlder_71 (by decide) ?_
          exact ih (k + 1) o1 (by omega) (by omega) (by rw [iter_step (by omega)] at hR; rw [← hR]; unfold growC; (first | rw [if_neg c7] | rw [if_pos c7] | skip); (first | rw [if_neg c16] | rw [if_pos c16] | skip); try rfl) (by first | assumption | omega) _ _ _ hP hD hS (lv_sub hl [0, 1, 2] rfl)
        ·
          refine lv_iload_n hx hb dX5_growOlder_19 rfl (lv_at hl 2 rfl) ?_
          refine lv_aload_n hx hb dX5_growOlder_20 rfl (lv_at hl 1 rfl) ?_
          refine va_get (D := D) (ci := 5) (v := .ref (a 10)) (C := RX5) (T := TX5) (N := 8) hx hb hts i5 hown hK hP 6 rfl rfl 4 (by decide) w3 (fun _ h9 => h9) rfl dX5_growOlder_21 ?_
          refine lv_iload_n hx hb dX5_growOlder_24 rfl (lv_at hl 0 rfl) ?_
          refine aldI hx hb hK hP 10 0 rfl rfl (k) rfl (by omega) (by decide) dX5_growOlder_25 ?_
          refine lv_isub hx hb dX5_growOlder_26 ?_
          refine lv_istore_n (lv' := [(3, .int (z - (o1 7 k))), (2, .int (nI k)), (0, .ref (a 6)), (1, .int (z))]) hx hb dX5_growOlder_27 rfl hl (by decide) rfl (fun ls hl => ?_)
          refine lv_iload_n hx hb dX5_growOlder_28 rfl (lv_at hl 0 rfl) ?_
          refine lv_bipush (v := 7) hx hb dX5_growOlder_29 (by decide) ?_
          refine lv_irem hx hb dX5_growOlder_31 (by decide) ?_
          refine lv_if_ne (tgt := 54) hx hb dX5_growOlder_32 (by decide) (fun c32 => ?_) (fun c32 => ?_)
          ·
            refine lv_iload_n hx hb dX5_growOlder_54 rfl (lv_at hl 0 rfl) ?_
            refine lv_bipush (v := 56) hx hb dX5_growOlder_55 (by decide) ?_
            refine lv_icmp_ne (tgt := 68) hx hb dX5_growOlder_57 (by decide) (fun c57 => ?_) (fun c57 => ?_)
            ·
              refine lv_iinc (v := nI (k + 1)) (lv' := [(2, .int (nI (k + 1))), (3, .int (z - (o1 7 k))), (0, .ref (a 6)), (1, .int (z))]) hx hb dX5_growOlder_68 hl (k := 1) rfl (nI_1 _) (by decide) rfl (fun ls hl => ?_)
              refine lv_goto (tgt := 2) hx hb dX5_growOlder_71 (by decide) ?_
              exact ih (k + 1) o1 (by omega) (by omega) (by rw [iter_step (by omega)] at hR; rw [← hR]; unfold growC; (first | rw [if_neg c7] | rw [if_pos c7] | skip); (first | rw [if_neg c16] | rw [if_pos c16] | skip); (first | rw [if_neg c32] | rw [if_pos c32] | skip); (first | rw [if_neg c57] | rw [if_pos c57] | skip); try rfl) (by first | assumption | omega) _ _ _ hP hD hS (lv_sub hl [0, 2, 3] rfl)
            ·
              refine lv_aload_n hx hb dX5_growOlder_60 rfl (lv_at hl 2 rfl) ?_
              refine lv_iload_n hx hb dX5_growOlder_61 rfl (lv_at hl 1 rfl) ?_
              refine lv_iconst (v := 3) hx hb dX5_growOlder_62 (by decide) ?_
              refine lv_iload_n hx hb dX5_growOlder_63 rfl (lv_at hl 3 rfl) ?_
              refine lv_iconst (v := -1) hx hb dX5_growOlder_64 (by decide) ?_
              refine wrVv (As := [.int (nI k), .int (3), .int (z), .int (-1)]) (rest := []) ⟨hx, hb, hml, hown, hts⟩ (c_X5_close l D T a o1 k 3 z (-1) N hN1 hN2 (by omega) _) (cwV 4 hts gX5_growOlder_X5_close rfl rfl rfl (by decide +kernel) ⟨Nat.le_of_ble_eq_true rfl, Nat.le_of_ble_eq_true rfl⟩) (Foc.rfl _ _) hK hP hD hS hA 6 rfl rfl rfl hl.1 rfl (Nat.le_of_ble_eq_true rfl) ⟨Nat.zero_le _, Nat.zero_le _⟩ dX5_growOlder_65 (fun H locs hP hD hS => ?_)
              have hP : va_P D vwCl (OFF T a (pileClose o1 k 3 z (-1))) H := hP
              have hD : va_D A (OFF T a (pileClose o1 k 3 z (-1))) := hD
              refine lv_iinc (v := nI (k + 1)) (lv' := [(2, .int (nI (k + 1))), (3, .int (z - (o1 7 k))), (0, .ref (a 6)), (1, .int (z))]) hx hb dX5_growOlder_68 hl (k := 1) rfl (nI_1 _) (by decide) rfl (fun ls hl => ?_)
              refine lv_goto (tgt := 2) hx hb dX5_growOlder_71 (by decide) ?_
              exact ih (k + 1) (pileClose o1 k 3 z (-1)) (by omega) (by omega) (by rw [iter_step (by omega)] at hR; rw [← hR]; unfold growC; (first | rw [if_neg c7] | rw [if_pos c7] | skip); (first | rw [if_neg c16] | rw [if_pos c16] | skip); (first | rw [if_neg c32] | rw [if_pos c32] | skip); (first | rw [if_neg c57] | rw [if_pos c57] | skip); try rfl) (by first | assumption | omega) _ _ _ hP hD hS (lv_sub hl [0, 2, 3] rfl)
          ·
            refine lv_aload_n hx hb dX5_growOlder_35 rfl (lv_at hl 2 rfl) ?_
            refine va_get (D := D) (ci := 5) (v := .ref (a 9)) (C := RX5) (T := TX5) (N := 8) hx hb hts i5 hown hK hP 6 rfl rfl 3 (by decide) w4 (fun _ h9 => h9) rfl dX5_growOlder_36 ?_
            refine lv_iload_n hx hb dX5_growOlder_39 rfl (lv_at hl 1 rfl) ?_
            refine lv_bipush (v := 9) hx hb dX5_growOlder_40 (by decide) ?_
            refine lv_aload_n hx hb dX5_growOlder_42 rfl (lv_at hl 2 rfl) ?_
            refine va_get (D := D) (ci := 5) (v := .ref (a 9)) (C := RX5) (T := TX5) (N := 8) hx hb hts i5 hown hK hP 6 rfl rfl 3 (by decide) w4 (fun _ h9 => h9) rfl dX5_growOlder_43 ?_
            refine lv_iload_n hx hb dX5_growOlder_46 rfl (lv_at hl 1 rfl) ?_
            refine aldI hx hb hK hP 9 0 rfl rfl (k) rfl (by omega) (by decide) dX5_growOlder_47 ?_
            refine lv_iconst (v := 1) hx hb dX5_growOlder_48 (by decide) ?_
            refine lv_iadd hx hb dX5_growOlder_49 ?_
            refine va_mmin hx hb (hml.trans hl.1.symm) hown w5 w6 w7 w8 (by decide) (Nat.le_of_ble_eq_true rfl) (Nat.zero_le _) (Nat.zero_le _) dX5_growOlder_50 ?_
            refine astI hx hb hK hP hD hS 9 0 rfl rfl (k) rfl (by omega) (by decide) dX5_growOlder_53 (fun H locs hP hD hS => ?_)
            have hP : va_P D vwCl (OFF T a ((va_up o1 6 (va_up (o1 6) k (if ((o1 6 k) + 1) < 9 then ((o1 6 k) + 1) else 9))))) H := hP
            have hD : va_D A (OFF T a ((va_up o1 6 (va_up (o1 6) k (if ((o1 6 k) + 1) < 9 then ((o1 6 k) + 1) else 9))))) := hD
            refine lv_iload_n hx hb dX5_growOlder_54 rfl (lv_at hl 0 rfl) ?_
            refine lv_bipush (v := 56) hx hb dX5_growOlder_55 (by decide) ?_
            refine lv_icmp_ne (tgt := 68) hx hb dX5_growOlder_57 (by decide) (fun c57 => ?_) (fun c57 => ?_)
            ·
              refine lv_iinc (v := nI (k + 1)) (lv' := [(2, .int (nI (k + 1))), (3, .int (z - (o1 7 k))), (0, .ref (a 6)), (1, .int (z))]) hx hb dX5_growOlder_68 hl (k := 1) rfl (nI_1 _) (by decide) rfl (fun ls hl => ?_)
              refine lv_goto (tgt := 2) hx hb dX5_growOlder_71 (by decide) ?_
              exact ih (k + 1) ((va_up o1 6 (va_up (o1 6) k (if ((o1 6 k) + 1) < 9 then ((o1 6 k) + 1) else 9)))) (by omega) (by omega) (by rw [iter_step (by omega)] at hR; rw [← hR]; unfold growC; (first | rw [if_neg c7] | rw [if_pos c7] | skip); (first | rw [if_neg c16] | rw [if_pos c16] | skip); (first | rw [if_neg c32] | rw [if_pos c32] | skip); (first | rw [if_neg c57] | rw [if_pos c57] | skip); try rfl) (by first | assumption | omega) _ _ _ hP hD hS (lv_sub hl [0, 2, 3] rfl)
            ·
              refine lv_aload_n hx hb dX5_growOlder_60 rfl (lv_at hl 2 rfl) ?_
              refine lv_iload_n hx hb dX5_growOlder_61 rfl (lv_at hl 1 rfl) ?_
              refine lv_iconst (v := 3) hx hb dX5_growOlder_62 (by decide) ?_
              refine lv_iload_n hx hb dX5_growOlder_63 rfl (lv_at hl 3 rfl) ?_
              refine lv_iconst (v := -1) hx hb dX5_growOlder_64 (by decide) ?_
              refine wrVv (As := [.int (nI k), .int (3), .int (z), .int (-1)]) (rest := []) ⟨hx, hb, hml, hown, hts⟩ (c_X5_close l D T a ((va_up o1 6 (va_up (o1 6) k (if ((o1 6 k) + 1) < 9 then ((o1 6 k) + 1) else 9)))) k 3 z (-1) N hN1 hN2 (by omega) _) (cwV 4 hts gX5_growOlder_X5_close rfl rfl rfl (by decide +kernel) ⟨Nat.le_of_ble_eq_true rfl, Nat.le_of_ble_eq_true rfl⟩) (Foc.rfl _ _) hK hP hD hS hA 6 rfl rfl rfl hl.1 rfl (Nat.le_of_ble_eq_true rfl) ⟨Nat.zero_le _, Nat.zero_le _⟩ dX5_growOlder_65 (fun H locs hP hD hS => ?_)
              have hP : va_P D vwCl (OFF T a (pileClose ((va_up o1 6 (va_up (o1 6) k (if ((o1 6 k) + 1) < 9 then ((o1 6 k) + 1) else 9)))) k 3 z (-1))) H := hP
              have hD : va_D A (OFF T a (pileClose ((va_up o1 6 (va_up (o1 6) k (if ((o1 6 k) + 1) < 9 then ((o1 6 k) + 1) else 9)))) k 3 z (-1))) := hD
              refine lv_iinc (v := nI (k + 1)) (lv' := [(2, .int (nI (k + 1))), (3, .int (z - (o1 7 k))), (0, .ref (a 6)), (1, .int (z))]) hx hb dX5_growOlder_68 hl (k := 1) rfl (nI_1 _) (by decide) rfl (fun ls hl => ?_)
              refine lv_goto (tgt := 2) hx hb dX5_growOlder_71 (by decide) ?_
              exact ih (k + 1) (pileClose ((va_up o1 6 (va_up (o1 6) k (if ((o1 6 k) + 1) < 9 then ((o1 6 k) + 1) else 9)))) k 3 z (-1)) (by omega) (by omega) (by rw [iter_step (by omega)] at hR; rw [← hR]; unfold growC; (first | rw [if_neg c7] | rw [if_pos c7] | skip); (first | rw [if_neg c16] | rw [if_pos c16] | skip); (first | rw [if_neg c32] | rw [if_pos c32] | skip); (first | rw [if_neg c57] | rw [if_pos c57] | skip); try rfl) (by first | assumption | omega) _ _ _ hP hD hS (lv_sub hl [0, 2, 3] rfl)
  exact L2 _ 0 o (Nat.lt_succ_self _) (by omega) (by first | rfl | (simp; done)) (by first | assumption | omega | (intros; contradiction)) _ _ _ hP hD hS (lv_sub hl [0, 1, 2] rfl)

set_option maxHeartbeats 4000000 in
set_option maxRecDepth 100000 in
theorem c_X3_workOf (l : Launch) (D : va_G) (T : Nat → ClassId) (a : Nat → Nat) (o : Nat → Nat → Int32) (j : Nat) (z : Int32) (z1 : Int32) (N : Nat) (K : Nat) (hN : o 0 7 = nI N) (hN2 : N ≤ 24) (hKn : o 0 5 = nI K) (hK2 : K ≤ 5) (hj : j < K) (hS1 : ∃ S, S ≤ 9 ∧ o 2 j = nI S) (sz : Nat) : Met l yX3_workOf wsX3_workOf ({ frames := 2, cells := 0, slots := 0, locals := 45 } : Room) (va_Pc [.ref (a 0), .int (nI j), .int (z), .int (z1)] (PS D T (OFF T a o) sz)) (va_Qi (fun r9 (_ : Unit) => r9 = ((workC N j z z1 (1 + o 2 j / 3).toNatClampNeg 0 o).1)) (fun _ t => QS D T (va_A (OFF T a o) sz) (OFF T a ((workC N j z z1 (1 + o 2 j / 3).toNatClampNeg 0 o).2)) t) (va_A (OFF T a o) sz)) 0 0 (va_A (OFF T a o) sz) := by
  refine metSi (cc := cX3_workOf) (maxL := 8) (ty := .int) (by decide) rfl (by rfl) (Nat.le_of_ble_eq_true rfl) ?_
  intro p e s m args below meth c Q ls A hx hb hml hown hts hP hK hD hA hS hl hret
  have hown : s.vm.findClass RX3 = some m.cls := hown
  have hl : lv_has ls 8 [(0, .ref (a 0)), (1, .int (nI j)), (2, .int (z)), (3, .int (z1))] := hl
  have i3 : ∀ w ∈ wsX30, w ∈ wsX3_workOf := by decide +kernel
  have i8 : ∀ w ∈ wsX80, w ∈ wsX3_workOf := by decide +kernel
  have w1 := hts (Cond.fieldLink RX3 21 "MoonComplaintWindow$Office" "staff" "LMoonComplaintWindow$Staff;") (List.mem_of_getElem? (i := 1) rfl)
  have w2 := hts (Cond.fieldLink RX3 59 "MoonComplaintWindow$Staff" "skills" "[I") (List.mem_of_getElem? (i := 2) rfl)
  have w3 := hts (Cond.fieldLink RX3 63 "MoonComplaintWindow$Staff" "oils" "[I") (List.mem_of_getElem? (i := 3) rfl)
  have w4 := hts (Cond.fieldLink RX3 28 "MoonComplaintWindow$Office" "pile" "LMoonComplaintWindow$Pile;") (List.mem_of_getElem? (i := 4) rfl)
  have w5 := hts (Cond.fieldLink RX3 32 "MoonComplaintWindow$Office" "night" "I") (List.mem_of_getElem? (i := 5) rfl)
  obtain ⟨S, hS2, hS3⟩ := hS1
  refine lv_iconst (v := 1) hx hb dX3_workOf_0 (by decide) ?_
  refine lv_aload_n hx hb dX3_workOf_1 rfl (lv_at hl 0 rfl) ?_
  refine va_get (D := D) (ci := 3) (v := .ref (a 3)) (C := RX3) (T := TX3) (N := 4) hx hb hts i3 hown hK hP 0 rfl rfl 2 (by decide) w1 (fun _ h9 => h9) rfl dX3_workOf_2 ?_
  refine va_get (D := D) (ci := 8) (v := .ref (a 4)) (C := RX8) (T := TX8) (N := 4) hx hb hts i8 hown hK hP 3 rfl rfl 2 (by decide) w2 (fun _ h9 => h9) rfl dX3_workOf_5 ?_
  refine lv_iload_n hx hb dX3_workOf_8 rfl (lv_at hl 1 rfl) ?_
  refine aldI hx hb hK hP 4 0 rfl rfl (j) rfl (by omega) (by decide) dX3_workOf_9 ?_
  refine endI (r := nI S) (hS3) ?_
  refine lv_iconst (v := 3) hx hb dX3_workOf_10 (by decide) ?_
  refine lv_idiv hx hb dX3_workOf_11 (by decide) ?_
  refine endI (r := nI (S / 3)) (pk_div (by omega) (by decide) (by decide)) ?_
  refine lv_iadd hx hb dX3_workOf_12 ?_
  refine endI (r := nI (1 + (S / 3))) (nI_add _ _) ?_
  refine lv_istore (lv' := [(4, .int (nI (1 + (S / 3)))), (0, .ref (a 0)), (1, .int (nI j)), (2, .int (z)), (3, .int (z1))]) hx hb dX3_workOf_13 hl (by decide) rfl (fun ls hl => ?_)
  refine lv_iconst (v := 0) hx hb dX3_workOf_15 (by decide) ?_
  refine lv_istore (lv' := [(5, .int (0)), (4, .int (nI (1 + (S / 3)))), (0, .ref (a 0)), (1, .int (nI j)), (2, .int (z)), (3, .int (z1))]) hx hb dX3_workOf_16 hl (by decide) rfl (fun ls hl => ?_)
  refine lv_iconst (v := 0) hx hb dX3_workOf_18 (by decide) ?_
  refine lv_istore (lv' := [(6, .int (0)), (5, .int (0)), (4, .int (nI (1 + (S / 3)))), (0, .ref (a 0)), (1, .int (nI j)), (2, .int (z)), (3, .int (z1))]) hx hb dX3_workOf_19 hl (by decide) rfl (fun ls hl => ?_)
  have L21 : ∀ (n9 : Nat) (k : Nat) (x : Int32) (o1 : Nat → Nat → Int32), (1 + S / 3 - k) < n9 → (k ≤ 1 + S / 3) → (workC N j z z1 (1 + S / 3 - k) x o1 = workC N j z z1 (1 + o 2 j / 3).toNatClampNeg 0 o) → (o1 0 7 = nI N) → (o1 0 5 = nI K) → ∀ (H : Heap) (locs : List Loc) (ls : Array Slot), va_P D vwCl (OFF T a o1) H → va_D A (OFF T a o1) → va_S A s.heap H locs → lv_has ls 8 [(6, .int (nI k)), (5, .int (x)), (4, .int (nI (1 + (S / 3)))), (0, .ref (a 0)), (1, .int (nI j)), (2, .int (z)), (3, .int (z1))] → W p l e ({ frames := 2, cells := 0, slots := 0, locals := 45 } : Room) s m args below meth c H locs 0 0 Q (F0 m 21 ls []) := by
    intro n9
    induction n9 with
    | zero => intro k x o1 hm9; exact absurd hm9 (Nat.not_lt_zero _)
    | succ n9 ih =>
      intro k x o1 hm9 hk9 hR hN1 hK1 H locs ls hP hD hS hl
      refine lv_iload hx hb dX3_workOf_21 (lv_at hl 0 rfl) ?_
      refine lv_iload hx hb dX3_workOf_23 (lv_at hl 2 rfl) ?_
      refine lv_icmp_ge (tgt := 130) hx hb dX3_workOf_25 (by decide) (fun c25 => ?_) (fun c25 => ?_)
      ·
        have c25 : (1 + (S / 3)) ≤ k := (nI_leI (a := (1 + (S / 3))) (b := k) (by omega) (by omega)).mp c25
        refine lv_iload hx hb dX3_workOf_130 (lv_at hl 1 rfl) ?_
        refine endI (r := (workC N j z z1 (1 + o 2 j / 3).toNatClampNeg 0 o).1) (by first | (rw [show 1 + S / 3 - k = 0 from by omega] at hR; exact congrArg Prod.fst hR) | (rw [workC_lt c38] at hR; exact congrArg Prod.fst hR) | (rw [workC_none c54 c94] at hR; exact congrArg Prod.fst hR)) ?_
        have hE : o1 = (workC N j z z1 (1 + o 2 j / 3).toNatClampNeg 0 o).2 := by first | (rw [show 1 + S / 3 - k = 0 from by omega] at hR; exact congrArg Prod.snd hR) | (rw [workC_lt c38] at hR; exact congrArg Prod.snd hR) | (rw [workC_none c54 c94] at hR; exact congrArg Prod.snd hR)
        exact hret _ _ _ _ dX3_workOf_132 (by rw [← hE]; exact hP) (by rw [← hE]; exact hD) hS
      ·
        have c25 : ¬ (1 + (S / 3)) ≤ k := fun h9 => c25 ((nI_leI (a := (1 + (S / 3))) (b := k) (by omega) (by omega)).mpr h9)
        refine lv_aload_n hx hb dX3_workOf_28 rfl (lv_at hl 3 rfl) ?_
        refine va_get (D := D) (ci := 3) (v := .ref (a 3)) (C := RX3) (T := TX3) (N := 4) hx hb hts i3 hown hK hP 0 rfl rfl 2 (by decide) w1 (fun _ h9 => h9) rfl dX3_workOf_29 ?_
        refine va_get (D := D) (ci := 8) (v := .ref (a 5)) (C := RX8) (T := TX8) (N := 4) hx hb hts i8 hown hK hP 3 rfl rfl 3 (by decide) w3 (fun _ h9 => h9) rfl dX3_workOf_32 ?_
        refine lv_iload_n hx hb dX3_workOf_35 rfl (lv_at hl 4 rfl) ?_
        refine aldI hx hb hK hP 5 0 rfl rfl (j) rfl (by omega) (by decide) dX3_workOf_36 ?_
        refine lv_iload_n hx hb dX3_workOf_37 rfl (lv_at hl 6 rfl) ?_
        refine lv_icmp_lt (tgt := 130) hx hb dX3_workOf_38 (by decide) (fun c38 => ?_) (fun c38 => ?_)
        ·
          refine lv_iload hx hb dX3_workOf_130 (lv_at hl 1 rfl) ?_
          refine endI (r := (workC N j z z1 (1 + o 2 j / 3).toNatClampNeg 0 o).1) (by first | (rw [show 1 + S / 3 - k = 0 from by omega] at hR; exact congrArg Prod.fst hR) | (rw [workC_lt c38] at hR; exact congrArg Prod.fst hR) | (rw [workC_none c54 c94] at hR; exact congrArg Prod.fst hR)) ?_
          have hE : o1 = (workC N j z z1 (1 + o 2 j / 3).toNatClampNeg 0 o).2 := by first | (rw [show 1 + S / 3 - k = 0 from by omega] at hR; exact congrArg Prod.snd hR) | (rw [workC_lt c38] at hR; exact congrArg Prod.snd hR) | (rw [workC_none c54 c94] at hR; exact congrArg Prod.snd hR)
          exact hret _ _ _ _ dX3_workOf_132 (by rw [← hE]; exact hP) (by rw [← hE]; exact hD) hS
        ·
          refine lv_aload_n hx hb dX3_workOf_41 rfl (lv_at hl 3 rfl) ?_
          refine va_get (D := D) (ci := 3) (v := .ref (a 6)) (C := RX3) (T := TX3) (N := 4) hx hb hts i3 hown hK hP 0 rfl rfl 3 (by decide) w4 (fun _ h9 => h9) rfl dX3_workOf_42 ?_
          refine lv_iload_n hx hb dX3_workOf_45 rfl (lv_at hl 5 rfl) ?_
          refine rdV (As := [.int (z)]) (rest := []) ⟨hx, hb, hml, hown, hts⟩ (c_X5_withMostAnger l D T a o1 z N hN1 hN2) (cwV 1 hts gX3_workOf_X5_withMostAnger rfl rfl rfl (by decide +kernel) ⟨Nat.le_of_ble_eq_true rfl, Nat.le_of_ble_eq_true rfl⟩) hK hP 6 rfl rfl rfl hl.1 rfl (Nat.le_of_ble_eq_true rfl) ⟨Nat.zero_le _, Nat.zero_le _⟩ dX3_workOf_46 ?_
          refine lv_istore (lv' := [(7, .int (oI (mostC o1 z N))), (6, .int (nI k)), (5, .int (x)), (4, .int (nI (1 + (S / 3)))), (0, .ref (a 0)), (1, .int (nI j)), (2, .int (z)), (3, .int (z1))]) hx hb dX3_workOf_49 hl (by decide) rfl (fun ls hl => ?_)
          refine lv_iload hx hb dX3_workOf_51 (lv_at hl 0 rfl) ?_
          refine lv_iconst (v := -1) hx hb dX3_workOf_53 (by decide) ?_
          refine lv_icmp_eq (tgt := 78) hx hb dX3_workOf_54 (by decide) (fun c54 => ?_) (fun c54 => ?_)
          ·
            have c54 := (oI_m1 (fun j h => by have := (mostC_lt h).1; omega)).mp c54
            refine lv_aload_n hx hb dX3_workOf_78 rfl (lv_at hl 4 rfl) ?_
            refine va_get (D := D) (ci := 3) (v := .ref (a 6)) (C := RX3) (T := TX3) (N := 4) hx hb hts i3 hown hK hP 0 rfl rfl 3 (by decide) w4 (fun _ h9 => h9) rfl dX3_workOf_79 ?_
            refine lv_aload_n hx hb dX3_workOf_82 rfl (lv_at hl 4 rfl) ?_
            refine va_get (D := D) (ci := 3) (v := .int (o1 0 0)) (C := RX3) (T := TX3) (N := 4) hx hb hts i3 hown hK hP 0 rfl rfl 0 (by decide) w5 (fun _ h9 => h9) rfl dX3_workOf_83 ?_
            refine rdV (As := [.int (o1 0 0)]) (rest := []) ⟨hx, hb, hml, hown, hts⟩ (c_X5_oldestToDismiss l D T a o1 (o1 0 0) N hN1 hN2) (cwV 1 hts gX3_workOf_X5_oldestToDismiss rfl rfl rfl (by decide +kernel) ⟨Nat.le_of_ble_eq_true rfl, Nat.le_of_ble_eq_true rfl⟩) hK hP 6 rfl rfl rfl hl.1 rfl (Nat.le_of_ble_eq_true rfl) ⟨Nat.zero_le _, Nat.zero_le _⟩ dX3_workOf_86 ?_
            refine lv_istore (lv' := [(7, .int (oI (firstC o1 ((o1 0 0) - 14) N))), (6, .int (nI k)), (5, .int (x)), (4, .int (nI (1 + (S / 3)))), (0, .ref (a 0)), (1, .int (nI j)), (2, .int (z)), (3, .int (z1))]) hx hb dX3_workOf_89 hl (by decide) rfl (fun ls hl => ?_)
            refine lv_iload hx hb dX3_workOf_91 (lv_at hl 0 rfl) ?_
            refine lv_iconst (v := -1) hx hb dX3_workOf_93 (by decide) ?_
            refine lv_icmp_ne (tgt := 100) hx hb dX3_workOf_94 (by decide) (fun c94 => ?_) (fun c94 => ?_)
            ·
              obtain ⟨q, hq⟩ : ∃ q, firstC o1 (o1 0 0 - 14) N = some q := by
                cases h : firstC o1 (o1 0 0 - 14) N with
                | none => exact absurd ((oI_m1 (fun j h => by have := (firstC_lt h).1; omega)).mpr h) c94
                | some q => exact ⟨q, rfl⟩
              have ql := (firstC_lt hq).1
              rw [hq] at hl
              have hl : lv_has ls 8 [(7, .int (nI q)), (6, .int (nI k)), (5, .int (x)), (4, .int (nI (1 + (S / 3)))), (0, .ref (a 0)), (1, .int (nI j)), (2, .int (z)), (3, .int (z1))] := hl
              refine lv_aload_n hx hb dX3_workOf_100 rfl (lv_at hl 4 rfl) ?_
              refine va_get (D := D) (ci := 3) (v := .ref (a 6)) (C := RX3) (T := TX3) (N := 4) hx hb hts i3 hown hK hP 0 rfl rfl 3 (by decide) w4 (fun _ h9 => h9) rfl dX3_workOf_101 ?_
              refine lv_iload hx hb dX3_workOf_104 (lv_at hl 0 rfl) ?_
              refine lv_iconst (v := 2) hx hb dX3_workOf_106 (by decide) ?_
              refine lv_aload_n hx hb dX3_workOf_107 rfl (lv_at hl 4 rfl) ?_
              refine va_get (D := D) (ci := 3) (v := .int (o1 0 0)) (C := RX3) (T := TX3) (N := 4) hx hb hts i3 hown hK hP 0 rfl rfl 0 (by decide) w5 (fun _ h9 => h9) rfl dX3_workOf_108 ?_
              refine lv_iload_n hx hb dX3_workOf_111 rfl (lv_at hl 5 rfl) ?_
              refine wrVv (As := [.int (nI q), .int (2), .int (o1 0 0), .int (nI j)]) (rest := []) ⟨hx, hb, hml, hown, hts⟩ (c_X5_close l D T a o1 q 2 (o1 0 0) (nI j) N hN1 hN2 (by omega) _) (cwV 4 hts gX3_workOf_X5_close rfl rfl rfl (by decide +kernel) ⟨Nat.le_of_ble_eq_true rfl, Nat.le_of_ble_eq_true rfl⟩) (Foc.rfl _ _) hK hP hD hS hA 6 rfl rfl rfl hl.1 rfl (Nat.le_of_ble_eq_true rfl) ⟨Nat.zero_le _, Nat.zero_le _⟩ dX3_workOf_112 (fun H locs hP hD hS => ?_)
              have hP : va_P D vwCl (OFF T a (pileClose o1 q 2 (o1 0 0) (nI j))) H := hP
              have hD : va_D A (OFF T a (pileClose o1 q 2 (o1 0 0) (nI j))) := hD
              refine lv_aload_n hx hb dX3_workOf_115 rfl (lv_at hl 4 rfl) ?_
              refine va_get (D := D) (ci := 3) (v := .ref (a 3)) (C := RX3) (T := TX3) (N := 4) hx hb hts i3 hown hK hP 0 rfl rfl 2 (by decide) w1 (fun _ h9 => h9) rfl dX3_workOf_116 ?_
              refine lv_iload_n hx hb dX3_workOf_119 rfl (lv_at hl 5 rfl) ?_
              refine lv_iload_n hx hb dX3_workOf_120 rfl (lv_at hl 7 rfl) ?_
              refine wrVv (As := [.int (nI j), .int (z1)]) (rest := []) ⟨hx, hb, hml, hown, hts⟩ (c_X8_burn l D T a (pileClose o1 q 2 (o1 0 0) (nI j)) j z1 K hK1 hK2 hj _) (cwV 2 hts gX3_workOf_X8_burn rfl rfl rfl (by decide +kernel) ⟨Nat.le_of_ble_eq_true rfl, Nat.le_of_ble_eq_true rfl⟩) (Foc.rfl _ _) hK hP hD hS hA 3 rfl rfl rfl hl.1 rfl (Nat.le_of_ble_eq_true rfl) ⟨Nat.zero_le _, Nat.zero_le _⟩ dX3_workOf_121 (fun H locs hP hD hS => ?_)
              have hP : va_P D vwCl (OFF T a (burnC (pileClose o1 q 2 (o1 0 0) (nI j)) j z1)) H := hP
              have hD : va_D A (OFF T a (burnC (pileClose o1 q 2 (o1 0 0) (nI j)) j z1)) := hD
              refine lv_iinc (v := nI (k + 1)) (lv' := [(6, .int (nI (k + 1))), (7, .int (nI q)), (5, .int (x)), (4, .int (nI (1 + (S / 3)))), (0, .ref (a 0)), (1, .int (nI j)), (2, .int (z)), (3, .int (z1))]) hx hb dX3_workOf_124 hl (k := 1) rfl (nI_1 _) (by decide) rfl (fun ls hl => ?_)
              refine lv_goto (tgt := 21) hx hb dX3_workOf_127 (by decide) ?_
              exact ih (k + 1) x (burnC (pileClose o1 q 2 (o1 0 0) (nI j)) j z1) (by omega) (by omega) (by rw [show 1 + S / 3 - k = (1 + S / 3 - (k + 1)) + 1 from by omega] at hR; first | (rw [workC_some c38 hq] at hR; exact hR) | (rw [workC_old c38 c54 hq] at hR; exact hR)) (by exact hN1) (by exact hK1) _ _ _ hP hD hS (lv_sub hl [0, 2, 3, 4, 5, 6, 7] rfl)
            ·
              have c94 := (oI_m1 (fun j h => by have := (firstC_lt h).1; omega)).mp c94
              refine lv_goto (tgt := 130) hx hb dX3_workOf_97 (by decide) ?_
              refine lv_iload hx hb dX3_workOf_130 (lv_at hl 2 rfl) ?_
              refine endI (r := (workC N j z z1 (1 + o 2 j / 3).toNatClampNeg 0 o).1) (by first | (rw [show 1 + S / 3 - k = 0 from by omega] at hR; exact congrArg Prod.fst hR) | (rw [workC_lt c38] at hR; exact congrArg Prod.fst hR) | (rw [workC_none c54 c94] at hR; exact congrArg Prod.fst hR)) ?_
              have hE : o1 = (workC N j z z1 (1 + o 2 j / 3).toNatClampNeg 0 o).2 := by first | (rw [show 1 + S / 3 - k = 0 from by omega] at hR; exact congrArg Prod.snd hR) | (rw [workC_lt c38] at hR; exact congrArg Prod.snd hR) | (rw [workC_none c54 c94] at hR; exact congrArg Prod.snd hR)
              exact hret _ _ _ _ dX3_workOf_132 (by rw [← hE]; exact hP) (by rw [← hE]; exact hD) hS
          ·
            obtain ⟨q, hq⟩ : ∃ q, mostC o1 z N = some q := by
              cases h : mostC o1 z N with
              | none => exact absurd ((oI_m1 (fun j h => by have := (mostC_lt h).1; omega)).mpr h) c54
              | some q => exact ⟨q, rfl⟩
            have ql := (mostC_lt hq).1
            rw [hq] at hl
            have hl : lv_has ls 8 [(7, .int (nI q)), (6, .int (nI k)), (5, .int (x)), (4, .int (nI (1 + (S / 3)))), (0, .ref (a 0)), (1, .int (nI j)), (2, .int (z)), (3, .int (z1))] := hl
            refine lv_aload_n hx hb dX3_workOf_57 rfl (lv_at hl 4 rfl) ?_
            refine va_get (D := D) (ci := 3) (v := .ref (a 6)) (C := RX3) (T := TX3) (N := 4) hx hb hts i3 hown hK hP 0 rfl rfl 3 (by decide) w4 (fun _ h9 => h9) rfl dX3_workOf_58 ?_
            refine lv_iload hx hb dX3_workOf_61 (lv_at hl 0 rfl) ?_
            refine lv_iconst (v := 1) hx hb dX3_workOf_63 (by decide) ?_
            refine lv_aload_n hx hb dX3_workOf_64 rfl (lv_at hl 4 rfl) ?_
            refine va_get (D := D) (ci := 3) (v := .int (o1 0 0)) (C := RX3) (T := TX3) (N := 4) hx hb hts i3 hown hK hP 0 rfl rfl 0 (by decide) w5 (fun _ h9 => h9) rfl dX3_workOf_65 ?_
            refine lv_iload_n hx hb dX3_workOf_68 rfl (lv_at hl 5 rfl) ?_
            refine wrVv (As := [.int (nI q), .int (1), .int (o1 0 0), .int (nI j)]) (rest := []) ⟨hx, hb, hml, hown, hts⟩ (c_X5_close l D T a o1 q 1 (o1 0 0) (nI j) N hN1 hN2 (by omega) _) (cwV 4 hts gX3_workOf_X5_close rfl rfl rfl (by decide +kernel) ⟨Nat.le_of_ble_eq_true rfl, Nat.le_of_ble_eq_true rfl⟩) (Foc.rfl _ _) hK hP hD hS hA 6 rfl rfl rfl hl.1 rfl (Nat.le_of_ble_eq_true rfl) ⟨Nat.zero_le _, Nat.zero_le _⟩ dX3_workOf_69 (fun H locs hP hD hS => ?_)
            have hP : va_P D vwCl (OFF T a (pileClose o1 q 1 (o1 0 0) (nI j))) H := hP
            have hD : va_D A (OFF T a (pileClose o1 q 1 (o1 0 0) (nI j))) := hD
            refine lv_iinc (v := x + 1) (lv' := [(5, .int (x + 1)), (7, .int (nI q)), (6, .int (nI k)), (4, .int (nI (1 + (S / 3)))), (0, .ref (a 0)), (1, .int (nI j)), (2, .int (z)), (3, .int (z1))]) hx hb dX3_workOf_72 hl (k := 2) rfl rfl (by decide) rfl (fun ls hl => ?_)
            refine lv_goto (tgt := 115) hx hb dX3_workOf_75 (by decide) ?_
            refine lv_aload_n hx hb dX3_workOf_115 rfl (lv_at hl 4 rfl) ?_
            refine va_get (D := D) (ci := 3) (v := .ref (a 3)) (C := RX3) (T := TX3) (N := 4) hx hb hts i3 hown hK hP 0 rfl rfl 2 (by decide) w1 (fun _ h9 => h9) rfl dX3_workOf_116 ?_
            refine lv_iload_n hx hb dX3_workOf_119 rfl (lv_at hl 5 rfl) ?_
            refine lv_iload_n hx hb dX3_workOf_120 rfl (lv_at hl 7 rfl) ?_
            refine wrVv (As := [.int (nI j), .int (z1)]) (rest := []) ⟨hx, hb, hml, hown, hts⟩ (c_X8_burn l D T a (pileClose o1 q 1 (o1 0 0) (nI j)) j z1 K hK1 hK2 hj _) (cwV 2 hts gX3_workOf_X8_burn rfl rfl rfl (by decide +kernel) ⟨Nat.le_of_ble_eq_true rfl, Nat.le_of_ble_eq_true rfl⟩) (Foc.rfl _ _) hK hP hD hS hA 3 rfl rfl rfl hl.1 rfl (Nat.le_of_ble_eq_true rfl) ⟨Nat.zero_le _, Nat.zero_le _⟩ dX3_workOf_121 (fun H locs hP hD hS => ?_)
            have hP : va_P D vwCl (OFF T a (burnC (pileClose o1 q 1 (o1 0 0) (nI j)) j z1)) H := hP
            have hD : va_D A (OFF T a (burnC (pileClose o1 q 1 (o1 0 0) (nI j)) j z1)) := hD
            refine lv_iinc (v := nI (k + 1)) (lv' := [(6, .int (nI (k + 1))), (5, .int (x + 1)), (7, .int (nI q)), (4, .int (nI (1 + (S / 3)))), (0, .ref (a 0)), (1, .int (nI j)), (2, .int (z)), (3, .int (z1))]) hx hb dX3_workOf_124 hl (k := 2) rfl (nI_1 _) (by decide) rfl (fun ls hl => ?_)
            refine lv_goto (tgt := 21) hx hb dX3_workOf_127 (by decide) ?_
            exact ih (k + 1) (x + 1) (burnC (pileClose o1 q 1 (o1 0 0) (nI j)) j z1) (by omega) (by omega) (by rw [show 1 + S / 3 - k = (1 + S / 3 - (k + 1)) + 1 from by omega] at hR; first | (rw [workC_some c38 hq] at hR; exact hR) | (rw [workC_old c38 c54 hq] at hR; exact hR)) (by exact hN1) (by exact hK1) _ _ _ hP hD hS (lv_sub hl [0, 1, 3, 4, 5, 6, 7] rfl)
  exact L21 _ 0 0 o (Nat.lt_succ_self _) (by omega) (by rw [show (1 + o 2 j / 3).toNatClampNeg = 1 + S / 3 from by rw [hS3, show nI S / 3 = nI (S / 3) from pk_div (by omega) (by decide) (by decide)]; exact (congrArg _ (nI_add 1 _)).trans (nI_clamp (by omega))]; rfl) (by exact hN) (by exact hKn) _ _ _ hP hD hS (lv_sub hl [0, 1, 2, 3, 4, 5, 6] rfl)

set_option maxHeartbeats 4000000 in
set_option maxRecDepth 100000 in
theorem c_X6_copyFrom (l : Launch) (D : va_G) (T : Nat → ClassId) (a : Nat → Nat) (o : Nat → Nat → Int32) (a2 : Nat → Nat) (o2 : Nat → Nat → Int32) (sz : Nat) : Met l yX6_copyFrom wsX6_copyFrom ({ frames := 1, cells := 0, slots := 0, locals := 40 } : Room) (va_Pc [.ref (a 1), .ref (a2 1)] (PS D T (OFF T a o ++ OFF T a2 o2) sz)) (va_Qv (fun (_ : Unit) => True) (fun _ t => QS D T (va_A (OFF T a o ++ OFF T a2 o2) sz) (OFF T a (va_up (va_up o 0 (va_up (va_up (va_up (va_up (o 0) 1 (o2 0 1)) 2 (o2 0 2)) 3 (o2 0 3)) 4 (o2 0 4))) 1 (o2 1)) ++ OFF T a2 o2) t) (va_A (OFF T a o ++ OFF T a2 o2) sz)) 0 0 (va_A (OFF T a o ++ OFF T a2 o2) sz) := by
  refine metSv (cc := cX6_copyFrom) (maxL := 2) (by decide) rfl (Nat.le_of_ble_eq_true rfl) ?_
  intro p e s m args below meth c Q ls A hx hb hml hown hts hP hK hD hA hS hl hret
  have hown : s.vm.findClass RX6 = some m.cls := hown
  have hl : lv_has ls 2 [(0, .ref (a 1)), (1, .ref (a2 1))] := hl
  have i6 : ∀ w ∈ wsX60, w ∈ wsX6_copyFrom := by decide +kernel
  have w1 := hts (Cond.fieldLink RX6 34 "MoonComplaintWindow$Sky" "glareLimit" "I") (List.mem_of_getElem? (i := 1) rfl)
  have w2 := hts (Cond.fieldLink RX6 37 "MoonComplaintWindow$Sky" "gloomLimit" "I") (List.mem_of_getElem? (i := 2) rfl)
  have w3 := hts (Cond.fieldLink RX6 43 "MoonComplaintWindow$Sky" "tideLimit" "I") (List.mem_of_getElem? (i := 3) rfl)
  have w4 := hts (Cond.fieldLink RX6 21 "MoonComplaintWindow$Sky" "total" "I") (List.mem_of_getElem? (i := 4) rfl)
  have w5 := hts (Cond.fieldLink RX6 9 "MoonComplaintWindow$Sky" "clouds" "[I") (List.mem_of_getElem? (i := 5) rfl)
  have w6 := hts (Cond.methodLink RX6 50 arraycopyName) (List.mem_of_getElem? (i := 6) rfl)
  have w7 := hts (Cond.native arraycopyName) (List.mem_of_getElem? (i := 7) rfl)
  have w8 := hts (Cond.static arraycopyName) (List.mem_of_getElem? (i := 8) rfl)
  have w9 := hts (Cond.initialized "java/lang/System") (List.mem_of_getElem? (i := 9) rfl)
  refine lv_aload_n hx hb dX6_copyFrom_0 rfl (lv_at hl 0 rfl) ?_
  refine lv_aload_n hx hb dX6_copyFrom_1 rfl (lv_at hl 1 rfl) ?_
  refine va_get (D := D) (ci := 6) (v := .int (o2 0 1)) (C := RX6) (T := TX6) (N := 5) hx hb hts i6 hown hK hP 15 rfl rfl 0 (by decide) w1 (fun _ h9 => h9) rfl dX6_copyFrom_2 ?_
  refine va_put (D := D) (ci := 6) (v := .int (o2 0 1)) (ty := .int) (C := RX6) (T := TX6) (N := 5) hx hb hts i6 tyX6 tyX6_ok nmX6 hown hK hP hD hS 1 rfl rfl 0 (by decide) w1 (fun _ h9 => h9) rfl (by decide +kernel) rfl rfl (Nat.le_of_ble_eq_true rfl) dX6_copyFrom_5 (fun H locs hP hD hS => ?_)
  have hP : va_P D vwCl (OFF T a ((va_up o 0 (va_up (o 0) 1 (o2 0 1)))) ++ OFF T a2 o2) H := hP
  have hD : va_D A (OFF T a ((va_up o 0 (va_up (o 0) 1 (o2 0 1)))) ++ OFF T a2 o2) := hD
  refine lv_aload_n hx hb dX6_copyFrom_8 rfl (lv_at hl 0 rfl) ?_
  refine lv_aload_n hx hb dX6_copyFrom_9 rfl (lv_at hl 1 rfl) ?_
  refine va_get (D := D) (ci := 6) (v := .int (o2 0 2)) (C := RX6) (T := TX6) (N := 5) hx hb hts i6 hown hK hP 15 rfl rfl 1 (by decide) w2 (fun _ h9 => h9) rfl dX6_copyFrom_10 ?_
  refine va_put (D := D) (ci := 6) (v := .int (o2 0 2)) (ty := .int) (C := RX6) (T := TX6) (N := 5) hx hb hts i6 tyX6 tyX6_ok nmX6 hown hK hP hD hS 1 rfl rfl 1 (by decide) w2 (fun _ h9 => h9) rfl (by decide +kernel) rfl rfl (Nat.le_of_ble_eq_true rfl) dX6_copyFrom_13 (fun H locs hP hD hS => ?_)
  have hP : va_P D vwCl (OFF T a ((va_up o 0 (va_up (va_up (o 0) 1 (o2 0 1)) 2 (o2 0 2)))) ++ OFF T a2 o2) H := hP
  have hD : va_D A (OFF T a ((va_up o 0 (va_up (va_up (o 0) 1 (o2 0 1)) 2 (o2 0 2)))) ++ OFF T a2 o2) := hD
  refine lv_aload_n hx hb dX6_copyFrom_16 rfl (lv_at hl 0 rfl) ?_
  refine lv_aload_n hx hb dX6_copyFrom_17 rfl (lv_at hl 1 rfl) ?_
  refine va_get (D := D) (ci := 6) (v := .int (o2 0 3)) (C := RX6) (T := TX6) (N := 5) hx hb hts i6 hown hK hP 15 rfl rfl 2 (by decide) w3 (fun _ h9 => h9) rfl dX6_copyFrom_18 ?_
  refine va_put (D := D) (ci := 6) (v := .int (o2 0 3)) (ty := .int) (C := RX6) (T := TX6) (N := 5) hx hb hts i6 tyX6 tyX6_ok nmX6 hown hK hP hD hS 1 rfl rfl 2 (by decide) w3 (fun _ h9 => h9) rfl (by decide +kernel) rfl rfl (Nat.le_of_ble_eq_true rfl) dX6_copyFrom_21 (fun H locs hP hD hS => ?_)
  have hP : va_P D vwCl (OFF T a ((va_up o 0 (va_up (va_up (va_up (o 0) 1 (o2 0 1)) 2 (o2 0 2)) 3 (o2 0 3)))) ++ OFF T a2 o2) H := hP
  have hD : va_D A (OFF T a ((va_up o 0 (va_up (va_up (va_up (o 0) 1 (o2 0 1)) 2 (o2 0 2)) 3 (o2 0 3)))) ++ OFF T a2 o2) := hD
  refine lv_aload_n hx hb dX6_copyFrom_24 rfl (lv_at hl 0 rfl) ?_
  refine lv_aload_n hx hb dX6_copyFrom_25 rfl (lv_at hl 1 rfl) ?_
  refine va_get (D := D) (ci := 6) (v := .int (o2 0 4)) (C := RX6) (T := TX6) (N := 5) hx hb hts i6 hown hK hP 15 rfl rfl 3 (by decide) w4 (fun _ h9 => h9) rfl dX6_copyFrom_26 ?_
  refine va_put (D := D) (ci := 6) (v := .int (o2 0 4)) (ty := .int) (C := RX6) (T := TX6) (N := 5) hx hb hts i6 tyX6 tyX6_ok nmX6 hown hK hP hD hS 1 rfl rfl 3 (by decide) w4 (fun _ h9 => h9) rfl (by decide +kernel) rfl rfl (Nat.le_of_ble_eq_true rfl) dX6_copyFrom_29 (fun H locs hP hD hS => ?_)
  have hP : va_P D vwCl (OFF T a ((va_up o 0 (va_up (va_up (va_up (va_up (o 0) 1 (o2 0 1)) 2 (o2 0 2)) 3 (o2 0 3)) 4 (o2 0 4)))) ++ OFF T a2 o2) H := hP
  have hD : va_D A (OFF T a ((va_up o 0 (va_up (va_up (va_up (va_up (o 0) 1 (o2 0 1)) 2 (o2 0 2)) 3 (o2 0 3)) 4 (o2 0 4)))) ++ OFF T a2 o2) := hD
  refine lv_aload_n hx hb dX6_copyFrom_32 rfl (lv_at hl 1 rfl) ?_
  refine va_get (D := D) (ci := 6) (v := .ref (a2 2)) (C := RX6) (T := TX6) (N := 5) hx hb hts i6 hown hK hP 15 rfl rfl 4 (by decide) w5 (fun _ h9 => h9) rfl dX6_copyFrom_33 ?_
  refine lv_iconst (v := 0) hx hb dX6_copyFrom_36 (by decide) ?_
  refine lv_aload_n hx hb dX6_copyFrom_37 rfl (lv_at hl 0 rfl) ?_
  refine va_get (D := D) (ci := 6) (v := .ref (a 2)) (C := RX6) (T := TX6) (N := 5) hx hb hts i6 hown hK hP 1 rfl rfl 4 (by decide) w5 (fun _ h9 => h9) rfl dX6_copyFrom_38 ?_
  refine lv_iconst (v := 0) hx hb dX6_copyFrom_41 (by decide) ?_
  refine lv_bipush (v := 10) hx hb dX6_copyFrom_42 (by decide) ?_
  refine cpyI hx hb (hml.trans hl.1.symm) hown w6 w7 w8 w9 hK hP hD hS 16 2 0 rfl rfl rfl (N := 10) rfl (by decide) (by decide) (Nat.le_of_ble_eq_true rfl) dX6_copyFrom_44 (fun H locs hP hD hS => ?_)
  have hP : va_P D vwCl (OFF T a ((va_up ((va_up o 0 (va_up (va_up (va_up (va_up (o 0) 1 (o2 0 1)) 2 (o2 0 2)) 3 (o2 0 3)) 4 (o2 0 4)))) 1 (o2 1))) ++ OFF T a2 o2) H := hP
  have hD : va_D A (OFF T a ((va_up ((va_up o 0 (va_up (va_up (va_up (va_up (o 0) 1 (o2 0 1)) 2 (o2 0 2)) 3 (o2 0 3)) 4 (o2 0 4)))) 1 (o2 1))) ++ OFF T a2 o2) := hD
  exact hret _ _ _ _ dX6_copyFrom_47 hP hD hS

set_option maxHeartbeats 4000000 in
set_option maxRecDepth 100000 in
theorem c_X8_copyFrom (l : Launch) (D : va_G) (T : Nat → ClassId) (a : Nat → Nat) (o : Nat → Nat → Int32) (a2 : Nat → Nat) (o2 : Nat → Nat → Int32) (sz : Nat) : Met l yX8_copyFrom wsX8_copyFrom ({ frames := 1, cells := 0, slots := 0, locals := 40 } : Room) (va_Pc [.ref (a 3), .ref (a2 3)] (PS D T (OFF T a o ++ OFF T a2 o2) sz)) (va_Qv (fun (_ : Unit) => True) (fun _ t => QS D T (va_A (OFF T a o ++ OFF T a2 o2) sz) (OFF T a (va_up (va_up (va_up o 0 (va_up (va_up (o 0) 5 (o2 0 5)) 6 (o2 0 6))) 2 (o2 2)) 3 (o2 3)) ++ OFF T a2 o2) t) (va_A (OFF T a o ++ OFF T a2 o2) sz)) 0 0 (va_A (OFF T a o ++ OFF T a2 o2) sz) := by
  refine metSv (cc := cX8_copyFrom) (maxL := 2) (by decide) rfl (Nat.le_of_ble_eq_true rfl) ?_
  intro p e s m args below meth c Q ls A hx hb hml hown hts hP hK hD hA hS hl hret
  have hown : s.vm.findClass RX8 = some m.cls := hown
  have hl : lv_has ls 2 [(0, .ref (a 3)), (1, .ref (a2 3))] := hl
  have i8 : ∀ w ∈ wsX80, w ∈ wsX8_copyFrom := by decide +kernel
  have w1 := hts (Cond.fieldLink RX8 18 "MoonComplaintWindow$Staff" "total" "I") (List.mem_of_getElem? (i := 1) rfl)
  have w2 := hts (Cond.fieldLink RX8 26 "MoonComplaintWindow$Staff" "oilUsed" "I") (List.mem_of_getElem? (i := 2) rfl)
  have w3 := hts (Cond.fieldLink RX8 9 "MoonComplaintWindow$Staff" "skills" "[I") (List.mem_of_getElem? (i := 3) rfl)
  have w4 := hts (Cond.methodLink RX8 29 arraycopyName) (List.mem_of_getElem? (i := 4) rfl)
  have w5 := hts (Cond.native arraycopyName) (List.mem_of_getElem? (i := 5) rfl)
  have w6 := hts (Cond.static arraycopyName) (List.mem_of_getElem? (i := 6) rfl)
  have w7 := hts (Cond.initialized "java/lang/System") (List.mem_of_getElem? (i := 7) rfl)
  have w8 := hts (Cond.fieldLink RX8 15 "MoonComplaintWindow$Staff" "oils" "[I") (List.mem_of_getElem? (i := 8) rfl)
  refine lv_aload_n hx hb dX8_copyFrom_0 rfl (lv_at hl 0 rfl) ?_
  refine lv_aload_n hx hb dX8_copyFrom_1 rfl (lv_at hl 1 rfl) ?_
  refine va_get (D := D) (ci := 8) (v := .int (o2 0 5)) (C := RX8) (T := TX8) (N := 4) hx hb hts i8 hown hK hP 17 rfl rfl 0 (by decide) w1 (fun _ h9 => h9) rfl dX8_copyFrom_2 ?_
  refine va_put (D := D) (ci := 8) (v := .int (o2 0 5)) (ty := .int) (C := RX8) (T := TX8) (N := 4) hx hb hts i8 tyX8 tyX8_ok nmX8 hown hK hP hD hS 3 rfl rfl 0 (by decide) w1 (fun _ h9 => h9) rfl (by decide +kernel) rfl rfl (Nat.le_of_ble_eq_true rfl) dX8_copyFrom_5 (fun H locs hP hD hS => ?_)
  have hP : va_P D vwCl (OFF T a ((va_up o 0 (va_up (o 0) 5 (o2 0 5)))) ++ OFF T a2 o2) H := hP
  have hD : va_D A (OFF T a ((va_up o 0 (va_up (o 0) 5 (o2 0 5)))) ++ OFF T a2 o2) := hD
  refine lv_aload_n hx hb dX8_copyFrom_8 rfl (lv_at hl 0 rfl) ?_
  refine lv_aload_n hx hb dX8_copyFrom_9 rfl (lv_at hl 1 rfl) ?_
  refine va_get (D := D) (ci := 8) (v := .int (o2 0 6)) (C := RX8) (T := TX8) (N := 4) hx hb hts i8 hown hK hP 17 rfl rfl 1 (by decide) w2 (fun _ h9 => h9) rfl dX8_copyFrom_10 ?_
  refine va_put (D := D) (ci := 8) (v := .int (o2 0 6)) (ty := .int) (C := RX8) (T := TX8) (N := 4) hx hb hts i8 tyX8 tyX8_ok nmX8 hown hK hP hD hS 3 rfl rfl 1 (by decide) w2 (fun _ h9 => h9) rfl (by decide +kernel) rfl rfl (Nat.le_of_ble_eq_true rfl) dX8_copyFrom_13 (fun H locs hP hD hS => ?_)
  have hP : va_P D vwCl (OFF T a ((va_up o 0 (va_up (va_up (o 0) 5 (o2 0 5)) 6 (o2 0 6)))) ++ OFF T a2 o2) H := hP
  have hD : va_D A (OFF T a ((va_up o 0 (va_up (va_up (o 0) 5 (o2 0 5)) 6 (o2 0 6)))) ++ OFF T a2 o2) := hD
  refine lv_aload_n hx hb dX8_copyFrom_16 rfl (lv_at hl 1 rfl) ?_
  refine va_get (D := D) (ci := 8) (v := .ref (a2 4)) (C := RX8) (T := TX8) (N := 4) hx hb hts i8 hown hK hP 17 rfl rfl 2 (by decide) w3 (fun _ h9 => h9) rfl dX8_copyFrom_17 ?_
  refine lv_iconst (v := 0) hx hb dX8_copyFrom_20 (by decide) ?_
  refine lv_aload_n hx hb dX8_copyFrom_21 rfl (lv_at hl 0 rfl) ?_
  refine va_get (D := D) (ci := 8) (v := .ref (a 4)) (C := RX8) (T := TX8) (N := 4) hx hb hts i8 hown hK hP 3 rfl rfl 2 (by decide) w3 (fun _ h9 => h9) rfl dX8_copyFrom_22 ?_
  refine lv_iconst (v := 0) hx hb dX8_copyFrom_25 (by decide) ?_
  refine lv_iconst (v := 5) hx hb dX8_copyFrom_26 (by decide) ?_
  refine cpyI hx hb (hml.trans hl.1.symm) hown w4 w5 w6 w7 hK hP hD hS 18 4 0 rfl rfl rfl (N := 5) rfl (by decide) (by decide) (Nat.le_of_ble_eq_true rfl) dX8_copyFrom_27 (fun H locs hP hD hS => ?_)
  have hP : va_P D vwCl (OFF T a ((va_up ((va_up o 0 (va_up (va_up (o 0) 5 (o2 0 5)) 6 (o2 0 6)))) 2 (o2 2))) ++ OFF T a2 o2) H := hP
  have hD : va_D A (OFF T a ((va_up ((va_up o 0 (va_up (va_up (o 0) 5 (o2 0 5)) 6 (o2 0 6)))) 2 (o2 2))) ++ OFF T a2 o2) := hD
  refine lv_aload_n hx hb dX8_copyFrom_30 rfl (lv_at hl 1 rfl) ?_
  refine va_get (D := D) (ci := 8) (v := .ref (a2 5)) (C := RX8) (T := TX8) (N := 4) hx hb hts i8 hown hK hP 17 rfl rfl 3 (by decide) w8 (fun _ h9 => h9) rfl dX8_copyFrom_31 ?_
  refine lv_iconst (v := 0) hx hb dX8_copyFrom_34 (by decide) ?_
  refine lv_aload_n hx hb dX8_copyFrom_35 rfl (lv_at hl 0 rfl) ?_
  refine va_get (D := D) (ci := 8) (v := .ref (a 5)) (C := RX8) (T := TX8) (N := 4) hx hb hts i8 hown hK hP 3 rfl rfl 3 (by decide) w8 (fun _ h9 => h9) rfl dX8_copyFrom_36 ?_
  refine lv_iconst (v := 0) hx hb dX8_copyFrom_39 (by decide) ?_
  refine lv_iconst (v := 5) hx hb dX8_copyFrom_40 (by decide) ?_
  refine cpyI hx hb (hml.trans hl.1.symm) hown w4 w5 w6 w7 hK hP hD hS 19 5 0 rfl rfl rfl (N := 5) rfl (by decide) (by decide) (Nat.le_of_ble_eq_true rfl) dX8_copyFrom_41 (fun H locs hP hD hS => ?_)
  have hP : va_P D vwCl (OFF T a ((va_up ((va_up ((va_up o 0 (va_up (va_up (o 0) 5 (o2 0 5)) 6 (o2 0 6)))) 2 (o2 2))) 3 (o2 3))) ++ OFF T a2 o2) H := hP
  have hD : va_D A (OFF T a ((va_up ((va_up ((va_up o 0 (va_up (va_up (o 0) 5 (o2 0 5)) 6 (o2 0 6)))) 2 (o2 2))) 3 (o2 3))) ++ OFF T a2 o2) := hD
  exact hret _ _ _ _ dX8_copyFrom_44 hP hD hS

set_option maxHeartbeats 4000000 in
set_option maxRecDepth 100000 in
theorem c_X5_copyFrom (l : Launch) (D : va_G) (T : Nat → ClassId) (a : Nat → Nat) (o : Nat → Nat → Int32) (a2 : Nat → Nat) (o2 : Nat → Nat → Int32) (sz : Nat) : Met l yX5_copyFrom wsX5_copyFrom ({ frames := 1, cells := 0, slots := 0, locals := 40 } : Room) (va_Pc [.ref (a 6), .ref (a2 6)] (PS D T (OFF T a o ++ OFF T a2 o2) sz)) (va_Qv (fun (_ : Unit) => True) (fun _ t => QS D T (va_A (OFF T a o ++ OFF T a2 o2) sz) (OFF T a (va_up (va_up (va_up (va_up (va_up (va_up (va_up (va_up o 0 (va_up (o 0) 7 (o2 0 7))) 4 (o2 4)) 5 (o2 5)) 6 (o2 6)) 7 (o2 7)) 8 (o2 8)) 9 (o2 9)) 10 (o2 10)) ++ OFF T a2 o2) t) (va_A (OFF T a o ++ OFF T a2 o2) sz)) 0 0 (va_A (OFF T a o ++ OFF T a2 o2) sz) := by
  refine metSv (cc := cX5_copyFrom) (maxL := 2) (by decide) rfl (Nat.le_of_ble_eq_true rfl) ?_
  intro p e s m args below meth c Q ls A hx hb hml hown hts hP hK hD hA hS hl hret
  have hown : s.vm.findClass RX5 = some m.cls := hown
  have hl : lv_has ls 2 [(0, .ref (a 6)), (1, .ref (a2 6))] := hl
  have i5 : ∀ w ∈ wsX50, w ∈ wsX5_copyFrom := by decide +kernel
  have w1 := hts (Cond.fieldLink RX5 33 "MoonComplaintWindow$Pile" "total" "I") (List.mem_of_getElem? (i := 1) rfl)
  have w2 := hts (Cond.fieldLink RX5 9 "MoonComplaintWindow$Pile" "persons" "[I") (List.mem_of_getElem? (i := 2) rfl)
  have w3 := hts (Cond.methodLink RX5 55 arraycopyName) (List.mem_of_getElem? (i := 3) rfl)
  have w4 := hts (Cond.native arraycopyName) (List.mem_of_getElem? (i := 4) rfl)
  have w5 := hts (Cond.static arraycopyName) (List.mem_of_getElem? (i := 5) rfl)
  have w6 := hts (Cond.initialized "java/lang/System") (List.mem_of_getElem? (i := 6) rfl)
  have w7 := hts (Cond.fieldLink RX5 15 "MoonComplaintWindow$Pile" "sorts" "[I") (List.mem_of_getElem? (i := 7) rfl)
  have w8 := hts (Cond.fieldLink RX5 18 "MoonComplaintWindow$Pile" "angers" "[I") (List.mem_of_getElem? (i := 8) rfl)
  have w9 := hts (Cond.fieldLink RX5 21 "MoonComplaintWindow$Pile" "filed" "[I") (List.mem_of_getElem? (i := 9) rfl)
  have w10 := hts (Cond.fieldLink RX5 24 "MoonComplaintWindow$Pile" "states" "[I") (List.mem_of_getElem? (i := 10) rfl)
  have w11 := hts (Cond.fieldLink RX5 27 "MoonComplaintWindow$Pile" "closed" "[I") (List.mem_of_getElem? (i := 11) rfl)
  have w12 := hts (Cond.fieldLink RX5 30 "MoonComplaintWindow$Pile" "clerks" "[I") (List.mem_of_getElem? (i := 12) rfl)
  refine lv_aload_n hx hb dX5_copyFrom_0 rfl (lv_at hl 0 rfl) ?_
  refine lv_aload_n hx hb dX5_copyFrom_1 rfl (lv_at hl 1 rfl) ?_
  refine va_get (D := D) (ci := 5) (v := .int (o2 0 7)) (C := RX5) (T := TX5) (N := 8) hx hb hts i5 hown hK hP 20 rfl rfl 0 (by decide) w1 (fun _ h9 => h9) rfl dX5_copyFrom_2 ?_
  refine va_put (D := D) (ci := 5) (v := .int (o2 0 7)) (ty := .int) (C := RX5) (T := TX5) (N := 8) hx hb hts i5 tyX5 tyX5_ok nmX5 hown hK hP hD hS 6 rfl rfl 0 (by decide) w1 (fun _ h9 => h9) rfl (by decide +kernel) rfl rfl (Nat.le_of_ble_eq_true rfl) dX5_copyFrom_5 (fun H locs hP hD hS => ?_)
  have hP : va_P D vwCl (OFF T a ((va_up o 0 (va_up (o 0) 7 (o2 0 7)))) ++ OFF T a2 o2) H := hP
  have hD : va_D A (OFF T a ((va_up o 0 (va_up (o 0) 7 (o2 0 7)))) ++ OFF T a2 o2) := hD
  refine lv_aload_n hx hb dX5_copyFrom_8 rfl (lv_at hl 1 rfl) ?_
  refine va_get (D := D) (ci := 5) (v := .ref (a2 7)) (C := RX5) (T := TX5) (N := 8) hx hb hts i5 hown hK hP 20 rfl rfl 1 (by decide) w2 (fun _ h9 => h9) rfl dX5_copyFrom_9 ?_
  refine lv_iconst (v := 0) hx hb dX5_copyFrom_12 (by decide) ?_
  refine lv_aload_n hx hb dX5_copyFrom_13 rfl (lv_at hl 0 rfl) ?_
  refine va_get (D := D) (ci := 5) (v := .ref (a 7)) (C := RX5) (T := TX5) (N := 8) hx hb hts i5 hown hK hP 6 rfl rfl 1 (by decide) w2 (fun _ h9 => h9) rfl dX5_copyFrom_14 ?_
  refine lv_iconst (v := 0) hx hb dX5_copyFrom_17 (by decide) ?_
  refine lv_bipush (v := 24) hx hb dX5_copyFrom_18 (by decide) ?_
  refine cpyI hx hb (hml.trans hl.1.symm) hown w3 w4 w5 w6 hK hP hD hS 21 7 0 rfl rfl rfl (N := 24) rfl (by decide) (by decide) (Nat.le_of_ble_eq_true rfl) dX5_copyFrom_20 (fun H locs hP hD hS => ?_)
  have hP : va_P D vwCl (OFF T a ((va_up ((va_up o 0 (va_up (o 0) 7 (o2 0 7)))) 4 (o2 4))) ++ OFF T a2 o2) H := hP
  have hD : va_D A (OFF T a ((va_up ((va_up o 0 (va_up (o 0) 7 (o2 0 7)))) 4 (o2 4))) ++ OFF T a2 o2) := hD
  refine lv_aload_n hx hb dX5_copyFrom_23 rfl (lv_at hl 1 rfl) ?_
  refine va_get (D := D) (ci := 5) (v := .ref (a2 8)) (C := RX5) (T := TX5) (N := 8) hx hb hts i5 hown hK hP 20 rfl rfl 2 (by decide) w7 (fun _ h9 => h9) rfl dX5_copyFrom_24 ?_
  refine lv_iconst (v := 0) hx hb dX5_copyFrom_27 (by decide) ?_
  refine lv_aload_n hx hb dX5_copyFrom_28 rfl (lv_at hl 0 rfl) ?_
  refine va_get (D := D) (ci := 5) (v := .ref (a 8)) (C := RX5) (T := TX5) (N := 8) hx hb hts i5 hown hK hP 6 rfl rfl 2 (by decide) w7 (fun _ h9 => h9) rfl dX5_copyFrom_29 ?_
  refine lv_iconst (v := 0) hx hb dX5_copyFrom_32 (by decide) ?_
  refine lv_bipush (v := 24) hx hb dX5_copyFrom_33 (by decide) ?_
  refine cpyI hx hb (hml.trans hl.1.symm) hown w3 w4 w5 w6 hK hP hD hS 22 8 0 rfl rfl rfl (N := 24) rfl (by decide) (by decide) (Nat.le_of_ble_eq_true rfl) dX5_copyFrom_35 (fun H locs hP hD hS => ?_)
  have hP : va_P D vwCl (OFF T a ((va_up ((va_up ((va_up o 0 (va_up (o 0) 7 (o2 0 7)))) 4 (o2 4))) 5 (o2 5))) ++ OFF T a2 o2) H := hP
  have hD : va_D A (OFF T a ((va_up ((va_up ((va_up o 0 (va_up (o 0) 7 (o2 0 7)))) 4 (o2 4))) 5 (o2 5))) ++ OFF T a2 o2) := hD
  refine lv_aload_n hx hb dX5_copyFrom_38 rfl (lv_at hl 1 rfl) ?_
  refine va_get (D := D) (ci := 5) (v := .ref (a2 9)) (C := RX5) (T := TX5) (N := 8) hx hb hts i5 hown hK hP 20 rfl rfl 3 (by decide) w8 (fun _ h9 => h9) rfl dX5_copyFrom_39 ?_
  refine lv_iconst (v := 0) hx hb dX5_copyFrom_42 (by decide) ?_
  refine lv_aload_n hx hb dX5_copyFrom_43 rfl (lv_at hl 0 rfl) ?_
  refine va_get (D := D) (ci := 5) (v := .ref (a 9)) (C := RX5) (T := TX5) (N := 8) hx hb hts i5 hown hK hP 6 rfl rfl 3 (by decide) w8 (fun _ h9 => h9) rfl dX5_copyFrom_44 ?_
  refine lv_iconst (v := 0) hx hb dX5_copyFrom_47 (by decide) ?_
  refine lv_bipush (v := 24) hx hb dX5_copyFrom_48 (by decide) ?_
  refine cpyI hx hb (hml.trans hl.1.symm) hown w3 w4 w5 w6 hK hP hD hS 23 9 0 rfl rfl rfl (N := 24) rfl (by decide) (by decide) (Nat.le_of_ble_eq_true rfl) dX5_copyFrom_50 (fun H locs hP hD hS => ?_)
  have hP : va_P D vwCl (OFF T a ((va_up ((va_up ((va_up ((va_up o 0 (va_up (o 0) 7 (o2 0 7)))) 4 (o2 4))) 5 (o2 5))) 6 (o2 6))) ++ OFF T a2 o2) H := hP
  have hD : va_D A (OFF T a ((va_up ((va_up ((va_up ((va_up o 0 (va_up (o 0) 7 (o2 0 7)))) 4 (o2 4))) 5 (o2 5))) 6 (o2 6))) ++ OFF T a2 o2) := hD
  refine lv_aload_n hx hb dX5_copyFrom_53 rfl (lv_at hl 1 rfl) ?_
  refine va_get (D := D) (ci := 5) (v := .ref (a2 10)) (C := RX5) (T := TX5) (N := 8) hx hb hts i5 hown hK hP 20 rfl rfl 4 (by decide) w9 (fun _ h9 => h9) rfl dX5_copyFrom_54 ?_
  refine lv_iconst (v := 0) hx hb dX5_copyFrom_57 (by decide) ?_
  refine lv_aload_n hx hb dX5_copyFrom_58 rfl (lv_at hl 0 rfl) ?_
  refine va_get (D := D) (ci := 5) (v := .ref (a 10)) (C := RX5) (T := TX5) (N := 8) hx hb hts i5 hown hK hP 6 rfl rfl 4 (by decide) w9 (fun _ h9 => h9) rfl dX5_copyFrom_59 ?_
  refine lv_iconst (v := 0) hx hb dX5_copyFrom_62 (by decide) ?_
  refine lv_bipush (v := 24) hx hb dX5_copyFrom_63 (by decide) ?_
  refine cpyI hx hb (hml.trans hl.1.symm) hown w3 w4 w5 w6 hK hP hD hS 24 10 0 rfl rfl rfl (N := 24) rfl (by decide) (by decide) (Nat.le_of_ble_eq_true rfl) dX5_copyFrom_65 (fun H locs hP hD hS => ?_)
  have hP : va_P D vwCl (OFF T a ((va_up ((va_up ((va_up ((va_up ((va_up o 0 (va_up (o 0) 7 (o2 0 7)))) 4 (o2 4))) 5 (o2 5))) 6 (o2 6))) 7 (o2 7))) ++ OFF T a2 o2) H := hP
  have hD : va_D A (OFF T a ((va_up ((va_up ((va_up ((va_up ((va_up o 0 (va_up (o 0) 7 (o2 0 7)))) 4 (o2 4))) 5 (o2 5))) 6 (o2 6))) 7 (o2 7))) ++ OFF T a2 o2) := hD
  refine lv_aload_n hx hb dX5_copyFrom_68 rfl (lv_at hl 1 rfl) ?_
  refine va_get (D := D) (ci := 5) (v := .ref (a2 11)) (C := RX5) (T := TX5) (N := 8) hx hb hts i5 hown hK hP 20 rfl rfl 5 (by decide) w10 (fun _ h9 => h9) rfl dX5_copyFrom_69 ?_
  refine lv_iconst (v := 0) hx hb dX5_copyFrom_72 (by decide) ?_
  refine lv_aload_n hx hb dX5_copyFrom_73 rfl (lv_at hl 0 rfl) ?_
  refine va_get (D := D) (ci := 5) (v := .ref (a 11)) (C := RX5) (T := TX5) (N := 8) hx hb hts i5 hown hK hP 6 rfl rfl 5 (by decide) w10 (fun _ h9 => h9) rfl dX5_copyFrom_74 ?_
  refine lv_iconst (v := 0) hx hb dX5_copyFrom_77 (by decide) ?_
  refine lv_bipush (v := 24) hx hb dX5_copyFrom_78 (by decide) ?_
  refine cpyI hx hb (hml.trans hl.1.symm) hown w3 w4 w5 w6 hK hP hD hS 25 11 0 rfl rfl rfl (N := 24) rfl (by decide) (by decide) (Nat.le_of_ble_eq_true rfl) dX5_copyFrom_80 (fun H locs hP hD hS => ?_)
  have hP : va_P D vwCl (OFF T a ((va_up ((va_up ((va_up ((va_up ((va_up ((va_up o 0 (va_up (o 0) 7 (o2 0 7)))) 4 (o2 4))) 5 (o2 5))) 6 (o2 6))) 7 (o2 7))) 8 (o2 8))) ++ OFF T a2 o2) H := hP
  have hD : va_D A (OFF T a ((va_up ((va_up ((va_up ((va_up ((va_up ((va_up o 0 (va_up (o 0) 7 (o2 0 7)))) 4 (o2 4))) 5 (o2 5))) 6 (o2 6))) 7 (o2 7))) 8 (o2 8))) ++ OFF T a2 o2) := hD
  refine lv_aload_n hx hb dX5_copyFrom_83 rfl (lv_at hl 1 rfl) ?_
  refine va_get (D := D) (ci := 5) (v := .ref (a2 12)) (C := RX5) (T := TX5) (N := 8) hx hb hts i5 hown hK hP 20 rfl rfl 6 (by decide) w11 (fun _ h9 => h9) rfl dX5_copyFrom_84 ?_
  refine lv_iconst (v := 0) hx hb dX5_copyFrom_87 (by decide) ?_
  refine lv_aload_n hx hb dX5_copyFrom_88 rfl (lv_at hl 0 rfl) ?_
  refine va_get (D := D) (ci := 5) (v := .ref (a 12)) (C := RX5) (T := TX5) (N := 8) hx hb hts i5 hown hK hP 6 rfl rfl 6 (by decide) w11 (fun _ h9 => h9) rfl dX5_copyFrom_89 ?_
  refine lv_iconst (v := 0) hx hb dX5_copyFrom_92 (by decide) ?_
  refine lv_bipush (v := 24) hx hb dX5_copyFrom_93 (by decide) ?_
  refine cpyI hx hb (hml.trans hl.1.symm) hown w3 w4 w5 w6 hK hP hD hS 26 12 0 rfl rfl rfl (N := 24) rfl (by decide) (by decide) (Nat.le_of_ble_eq_true rfl) dX5_copyFrom_95 (fun H locs hP hD hS => ?_)
  have hP : va_P D vwCl (OFF T a ((va_up ((va_up ((va_up ((va_up ((va_up ((va_up ((va_up o 0 (va_up (o 0) 7 (o2 0 7)))) 4 (o2 4))) 5 (o2 5))) 6 (o2 6))) 7 (o2 7))) 8 (o2 8))) 9 (o2 9))) ++ OFF T a2 o2) H := hP
  have hD : va_D A (OFF T a ((va_up ((va_up ((va_up ((va_up ((va_up ((va_up ((va_up o 0 (va_up (o 0) 7 (o2 0 7)))) 4 (o2 4))) 5 (o2 5))) 6 (o2 6))) 7 (o2 7))) 8 (o2 8))) 9 (o2 9))) ++ OFF T a2 o2) := hD
  refine lv_aload_n hx hb dX5_copyFrom_98 rfl (lv_at hl 1 rfl) ?_
  refine va_get (D := D) (ci := 5) (v := .ref (a2 13)) (C := RX5) (T := TX5) (N := 8) hx hb hts i5 hown hK hP 20 rfl rfl 7 (by decide) w12 (fun _ h9 => h9) rfl dX5_copyFrom_99 ?_
  refine lv_iconst (v := 0) hx hb dX5_copyFrom_102 (by decide) ?_
  refine lv_aload_n hx hb dX5_copyFrom_103 rfl (lv_at hl 0 rfl) ?_
  refine va_get (D := D) (ci := 5) (v := .ref (a 13)) (C := RX5) (T := TX5) (N := 8) hx hb hts i5 hown hK hP 6 rfl rfl 7 (by decide) w12 (fun _ h9 => h9) rfl dX5_copyFrom_104 ?_
  refine lv_iconst (v := 0) hx hb dX5_copyFrom_107 (by decide) ?_
  refine lv_bipush (v := 24) hx hb dX5_copyFrom_108 (by decide) ?_
  refine cpyI hx hb (hml.trans hl.1.symm) hown w3 w4 w5 w6 hK hP hD hS 27 13 0 rfl rfl rfl (N := 24) rfl (by decide) (by decide) (Nat.le_of_ble_eq_true rfl) dX5_copyFrom_110 (fun H locs hP hD hS => ?_)
  have hP : va_P D vwCl (OFF T a ((va_up ((va_up ((va_up ((va_up ((va_up ((va_up ((va_up ((va_up o 0 (va_up (o 0) 7 (o2 0 7)))) 4 (o2 4))) 5 (o2 5))) 6 (o2 6))) 7 (o2 7))) 8 (o2 8))) 9 (o2 9))) 10 (o2 10))) ++ OFF T a2 o2) H := hP
  have hD : va_D A (OFF T a ((va_up ((va_up ((va_up ((va_up ((va_up ((va_up ((va_up ((va_up o 0 (va_up (o 0) 7 (o2 0 7)))) 4 (o2 4))) 5 (o2 5))) 6 (o2 6))) 7 (o2 7))) 8 (o2 8))) 9 (o2 9))) 10 (o2 10))) ++ OFF T a2 o2) := hD
  exact hret _ _ _ _ dX5_copyFrom_113 hP hD hS

set_option maxHeartbeats 4000000 in
set_option maxRecDepth 100000 in
theorem c_X3_copyFrom (l : Launch) (D : va_G) (T : Nat → ClassId) (a : Nat → Nat) (o : Nat → Nat → Int32) (a2 : Nat → Nat) (o2 : Nat → Nat → Int32) (sz : Nat) : Met l yX3_copyFrom wsX3_copyFrom ({ frames := 2, cells := 0, slots := 0, locals := 61 } : Room) (va_Pc [.ref (a 0), .ref (a2 0)] (PS D T (OFF T a o ++ OFF T a2 o2) sz)) (va_Qv (fun (_ : Unit) => True) (fun _ t => QS D T (va_A (OFF T a o ++ OFF T a2 o2) sz) (OFF T a o2 ++ OFF T a2 o2) t) (va_A (OFF T a o ++ OFF T a2 o2) sz)) 0 0 (va_A (OFF T a o ++ OFF T a2 o2) sz) := by
  refine metSv (cc := cX3_copyFrom) (maxL := 2) (by decide) rfl (Nat.le_of_ble_eq_true rfl) ?_
  intro p e s m args below meth c Q ls A hx hb hml hown hts hP hK hD hA hS hl hret
  have hown : s.vm.findClass RX3 = some m.cls := hown
  have hl : lv_has ls 2 [(0, .ref (a 0)), (1, .ref (a2 0))] := hl
  have i3 : ∀ w ∈ wsX30, w ∈ wsX3_copyFrom := by decide +kernel
  have w1 := hts (Cond.fieldLink RX3 32 "MoonComplaintWindow$Office" "night" "I") (List.mem_of_getElem? (i := 1) rfl)
  have w2 := hts (Cond.fieldLink RX3 12 "MoonComplaintWindow$Office" "sky" "LMoonComplaintWindow$Sky;") (List.mem_of_getElem? (i := 2) rfl)
  have w3 := hts (Cond.fieldLink RX3 21 "MoonComplaintWindow$Office" "staff" "LMoonComplaintWindow$Staff;") (List.mem_of_getElem? (i := 3) rfl)
  have w4 := hts (Cond.fieldLink RX3 28 "MoonComplaintWindow$Office" "pile" "LMoonComplaintWindow$Pile;") (List.mem_of_getElem? (i := 4) rfl)
  refine lv_aload_n hx hb dX3_copyFrom_0 rfl (lv_at hl 0 rfl) ?_
  refine lv_aload_n hx hb dX3_copyFrom_1 rfl (lv_at hl 1 rfl) ?_
  refine va_get (D := D) (ci := 3) (v := .int (o2 0 0)) (C := RX3) (T := TX3) (N := 4) hx hb hts i3 hown hK hP 14 rfl rfl 0 (by decide) w1 (fun _ h9 => h9) rfl dX3_copyFrom_2 ?_
  refine va_put (D := D) (ci := 3) (v := .int (o2 0 0)) (ty := .int) (C := RX3) (T := TX3) (N := 4) hx hb hts i3 tyX3 tyX3_ok nmX3 hown hK hP hD hS 0 rfl rfl 0 (by decide) w1 (fun _ h9 => h9) rfl (by decide +kernel) rfl rfl (Nat.le_of_ble_eq_true rfl) dX3_copyFrom_5 (fun H locs hP hD hS => ?_)
  have hP : va_P D vwCl (OFF T a ((va_up o 0 (va_up (o 0) 0 (o2 0 0)))) ++ OFF T a2 o2) H := hP
  have hD : va_D A (OFF T a ((va_up o 0 (va_up (o 0) 0 (o2 0 0)))) ++ OFF T a2 o2) := hD
  refine lv_aload_n hx hb dX3_copyFrom_8 rfl (lv_at hl 0 rfl) ?_
  refine va_get (D := D) (ci := 3) (v := .ref (a 1)) (C := RX3) (T := TX3) (N := 4) hx hb hts i3 hown hK hP 0 rfl rfl 1 (by decide) w2 (fun _ h9 => h9) rfl dX3_copyFrom_9 ?_
  refine lv_aload_n hx hb dX3_copyFrom_12 rfl (lv_at hl 1 rfl) ?_
  refine va_get (D := D) (ci := 3) (v := .ref (a2 1)) (C := RX3) (T := TX3) (N := 4) hx hb hts i3 hown hK hP 14 rfl rfl 1 (by decide) w2 (fun _ h9 => h9) rfl dX3_copyFrom_13 ?_
  refine wrVv (As := [.ref (a2 1)]) (rest := []) ⟨hx, hb, hml, hown, hts⟩ (c_X6_copyFrom l D T a ((va_up o 0 (va_up (o 0) 0 (o2 0 0)))) a2 o2 _) (cwV 1 hts gX3_copyFrom_X6_copyFrom rfl rfl rfl (by decide +kernel) ⟨Nat.le_of_ble_eq_true rfl, Nat.le_of_ble_eq_true rfl⟩) (Foc.rfl _ _) hK hP hD hS hA 1 rfl rfl rfl hl.1 rfl (Nat.le_of_ble_eq_true rfl) ⟨Nat.zero_le _, Nat.zero_le _⟩ dX3_copyFrom_16 (fun H locs hP hD hS => ?_)
  have hP : va_P D vwCl (OFF T a (va_up (va_up ((va_up o 0 (va_up (o 0) 0 (o2 0 0)))) 0 (va_up (va_up (va_up (va_up (((va_up o 0 (va_up (o 0) 0 (o2 0 0)))) 0) 1 (o2 0 1)) 2 (o2 0 2)) 3 (o2 0 3)) 4 (o2 0 4))) 1 (o2 1)) ++ OFF T a2 o2) H := hP
  have hD : va_D A (OFF T a (va_up (va_up ((va_up o 0 (va_up (o 0) 0 (o2 0 0)))) 0 (va_up (va_up (va_up (va_up (((va_up o 0 (va_up (o 0) 0 (o2 0 0)))) 0) 1 (o2 0 1)) 2 (o2 0 2)) 3 (o2 0 3)) 4 (o2 0 4))) 1 (o2 1)) ++ OFF T a2 o2) := hD
  refine lv_aload_n hx hb dX3_copyFrom_19 rfl (lv_at hl 0 rfl) ?_
  refine va_get (D := D) (ci := 3) (v := .ref (a 3)) (C := RX3) (T := TX3) (N := 4) hx hb hts i3 hown hK hP 0 rfl rfl 2 (by decide) w3 (fun _ h9 => h9) rfl dX3_copyFrom_20 ?_
  refine lv_aload_n hx hb dX3_copyFrom_23 rfl (lv_at hl 1 rfl) ?_
  refine va_get (D := D) (ci := 3) (v := .ref (a2 3)) (C := RX3) (T := TX3) (N := 4) hx hb hts i3 hown hK hP 14 rfl rfl 2 (by decide) w3 (fun _ h9 => h9) rfl dX3_copyFrom_24 ?_
  refine wrVv (As := [.ref (a2 3)]) (rest := []) ⟨hx, hb, hml, hown, hts⟩ (c_X8_copyFrom l D T a (va_up (va_up ((va_up o 0 (va_up (o 0) 0 (o2 0 0)))) 0 (va_up (va_up (va_up (va_up (((va_up o 0 (va_up (o 0) 0 (o2 0 0)))) 0) 1 (o2 0 1)) 2 (o2 0 2)) 3 (o2 0 3)) 4 (o2 0 4))) 1 (o2 1)) a2 o2 _) (cwV 1 hts gX3_copyFrom_X8_copyFrom rfl rfl rfl (by decide +kernel) ⟨Nat.le_of_ble_eq_true rfl, Nat.le_of_ble_eq_true rfl⟩) (Foc.rfl _ _) hK hP hD hS hA 3 rfl rfl rfl hl.1 rfl (Nat.le_of_ble_eq_true rfl) ⟨Nat.zero_le _, Nat.zero_le _⟩ dX3_copyFrom_27 (fun H locs hP hD hS => ?_)
  have hP : va_P D vwCl (OFF T a (va_up (va_up (va_up (va_up (va_up ((va_up o 0 (va_up (o 0) 0 (o2 0 0)))) 0 (va_up (va_up (va_up (va_up (((va_up o 0 (va_up (o 0) 0 (o2 0 0)))) 0) 1 (o2 0 1)) 2 (o2 0 2)) 3 (o2 0 3)) 4 (o2 0 4))) 1 (o2 1)) 0 (va_up (va_up ((va_up (va_up ((va_up o 0 (va_up (o 0) 0 (o2 0 0)))) 0 (va_up (va_up (va_up (va_up (((va_up o 0 (va_up (o 0) 0 (o2 0 0)))) 0) 1 (o2 0 1)) 2 (o2 0 2)) 3 (o2 0 3)) 4 (o2 0 4))) 1 (o2 1)) 0) 5 (o2 0 5)) 6 (o2 0 6))) 2 (o2 2)) 3 (o2 3)) ++ OFF T a2 o2) H := hP
  have hD : va_D A (OFF T a (va_up (va_up (va_up (va_up (va_up ((va_up o 0 (va_up (o 0) 0 (o2 0 0)))) 0 (va_up (va_up (va_up (va_up (((va_up o 0 (va_up (o 0) 0 (o2 0 0)))) 0) 1 (o2 0 1)) 2 (o2 0 2)) 3 (o2 0 3)) 4 (o2 0 4))) 1 (o2 1)) 0 (va_up (va_up ((va_up (va_up ((va_up o 0 (va_up (o 0) 0 (o2 0 0)))) 0 (va_up (va_up (va_up (va_up (((va_up o 0 (va_up (o 0) 0 (o2 0 0)))) 0) 1 (o2 0 1)) 2 (o2 0 2)) 3 (o2 0 3)) 4 (o2 0 4))) 1 (o2 1)) 0) 5 (o2 0 5)) 6 (o2 0 6))) 2 (o2 2)) 3 (o2 3)) ++ OFF T a2 o2) := hD
  refine lv_aload_n hx hb dX3_copyFrom_30 rfl (lv_at hl 0 rfl) ?_
  refine va_get (D := D) (ci := 3) (v := .ref (a 6)) (C := RX3) (T := TX3) (N := 4) hx hb hts i3 hown hK hP 0 rfl rfl 3 (by decide) w4 (fun _ h9 => h9) rfl dX3_copyFrom_31 ?_
  refine lv_aload_n hx hb dX3_copyFrom_34 rfl (lv_at hl 1 rfl) ?_
  refine va_get (D := D) (ci := 3) (v := .ref (a2 6)) (C := RX3) (T := TX3) (N := 4) hx hb hts i3 hown hK hP 14 rfl rfl 3 (by decide) w4 (fun _ h9 => h9) rfl dX3_copyFrom_35 ?_
  refine wrVv (As := [.ref (a2 6)]) (rest := []) ⟨hx, hb, hml, hown, hts⟩ (c_X5_copyFrom l D T a (va_up (va_up (va_up (va_up (va_up ((va_up o 0 (va_up (o 0) 0 (o2 0 0)))) 0 (va_up (va_up (va_up (va_up (((va_up o 0 (va_up (o 0) 0 (o2 0 0)))) 0) 1 (o2 0 1)) 2 (o2 0 2)) 3 (o2 0 3)) 4 (o2 0 4))) 1 (o2 1)) 0 (va_up (va_up ((va_up (va_up ((va_up o 0 (va_up (o 0) 0 (o2 0 0)))) 0 (va_up (va_up (va_up (va_up (((va_up o 0 (va_up (o 0) 0 (o2 0 0)))) 0) 1 (o2 0 1)) 2 (o2 0 2)) 3 (o2 0 3)) 4 (o2 0 4))) 1 (o2 1)) 0) 5 (o2 0 5)) 6 (o2 0 6))) 2 (o2 2)) 3 (o2 3)) a2 o2 _) (cwV 1 hts gX3_copyFrom_X5_copyFrom rfl rfl rfl (by decide +kernel) ⟨Nat.le_of_ble_eq_true rfl, Nat.le_of_ble_eq_true rfl⟩) (Foc.rfl _ _) hK hP hD hS hA 6 rfl rfl rfl hl.1 rfl (Nat.le_of_ble_eq_true rfl) ⟨Nat.zero_le _, Nat.zero_le _⟩ dX3_copyFrom_38 (fun H locs hP hD hS => ?_)
  have hP : va_P D vwCl (OFF T a (va_up (va_up (va_up (va_up (va_up (va_up (va_up (va_up (va_up (va_up (va_up (va_up (va_up ((va_up o 0 (va_up (o 0) 0 (o2 0 0)))) 0 (va_up (va_up (va_up (va_up (((va_up o 0 (va_up (o 0) 0 (o2 0 0)))) 0) 1 (o2 0 1)) 2 (o2 0 2)) 3 (o2 0 3)) 4 (o2 0 4))) 1 (o2 1)) 0 (va_up (va_up ((va_up (va_up ((va_up o 0 (va_up (o 0) 0 (o2 0 0)))) 0 (va_up (va_up (va_up (va_up (((va_up o 0 (va_up (o 0) 0 (o2 0 0)))) 0) 1 (o2 0 1)) 2 (o2 0 2)) 3 (o2 0 3)) 4 (o2 0 4))) 1 (o2 1)) 0) 5 (o2 0 5)) 6 (o2 0 6))) 2 (o2 2)) 3 (o2 3)) 0 (va_up ((va_up (va_up (va_up (va_up (va_up ((va_up o 0 (va_up (o 0) 0 (o2 0 0)))) 0 (va_up (va_up (va_up (va_up (((va_up o 0 (va_up (o 0) 0 (o2 0 0)))) 0) 1 (o2 0 1)) 2 (o2 0 2)) 3 (o2 0 3)) 4 (o2 0 4))) 1 (o2 1)) 0 (va_up (va_up ((va_up (va_up ((va_up o 0 (va_up (o 0) 0 (o2 0 0)))) 0 (va_up (va_up (va_up (va_up (((va_up o 0 (va_up (o 0) 0 (o2 0 0)))) 0) 1 (o2 0 1)) 2 (o2 0 2)) 3 (o2 0 3)) 4 (o2 0 4))) 1 (o2 1)) 0) 5 (o2 0 5)) 6 (o2 0 6))) 2 (o2 2)) 3 (o2 3)) 0) 7 (o2 0 7))) 4 (o2 4)) 5 (o2 5)) 6 (o2 6)) 7 (o2 7)) 8 (o2 8)) 9 (o2 9)) 10 (o2 10)) ++ OFF T a2 o2) H := hP
  have hD : va_D A (OFF T a (va_up (va_up (va_up (va_up (va_up (va_up (va_up (va_up (va_up (va_up (va_up (va_up (va_up ((va_up o 0 (va_up (o 0) 0 (o2 0 0)))) 0 (va_up (va_up (va_up (va_up (((va_up o 0 (va_up (o 0) 0 (o2 0 0)))) 0) 1 (o2 0 1)) 2 (o2 0 2)) 3 (o2 0 3)) 4 (o2 0 4))) 1 (o2 1)) 0 (va_up (va_up ((va_up (va_up ((va_up o 0 (va_up (o 0) 0 (o2 0 0)))) 0 (va_up (va_up (va_up (va_up (((va_up o 0 (va_up (o 0) 0 (o2 0 0)))) 0) 1 (o2 0 1)) 2 (o2 0 2)) 3 (o2 0 3)) 4 (o2 0 4))) 1 (o2 1)) 0) 5 (o2 0 5)) 6 (o2 0 6))) 2 (o2 2)) 3 (o2 3)) 0 (va_up ((va_up (va_up (va_up (va_up (va_up ((va_up o 0 (va_up (o 0) 0 (o2 0 0)))) 0 (va_up (va_up (va_up (va_up (((va_up o 0 (va_up (o 0) 0 (o2 0 0)))) 0) 1 (o2 0 1)) 2 (o2 0 2)) 3 (o2 0 3)) 4 (o2 0 4))) 1 (o2 1)) 0 (va_up (va_up ((va_up (va_up ((va_up o 0 (va_up (o 0) 0 (o2 0 0)))) 0 (va_up (va_up (va_up (va_up (((va_up o 0 (va_up (o 0) 0 (o2 0 0)))) 0) 1 (o2 0 1)) 2 (o2 0 2)) 3 (o2 0 3)) 4 (o2 0 4))) 1 (o2 1)) 0) 5 (o2 0 5)) 6 (o2 0 6))) 2 (o2 2)) 3 (o2 3)) 0) 7 (o2 0 7))) 4 (o2 4)) 5 (o2 5)) 6 (o2 6)) 7 (o2 7)) 8 (o2 8)) 9 (o2 9)) 10 (o2 10)) ++ OFF T a2 o2) := hD
  exact hret _ _ _ _ dX3_copyFrom_41 hP hD hS

set_option maxHeartbeats 4000000 in
set_option maxRecDepth 100000 in
theorem c_X3_clear (l : Launch) (D : va_G) (T : Nat → ClassId) (a : Nat → Nat) (o : Nat → Nat → Int32) (sz : Nat) : Met l yX3_clear wsX3_clear ({ frames := 0, cells := 0, slots := 0, locals := 0 } : Room) (va_Pc [.ref (a 0)] (PS D T (OFF T a o) sz)) (va_Qv (fun (_ : Unit) => True) (fun _ t => QS D T (va_A (OFF T a o) sz) (OFF T a (clearC o)) t) (va_A (OFF T a o) sz)) 0 0 (va_A (OFF T a o) sz) := by
  refine metSv (cc := cX3_clear) (maxL := 1) (by decide) rfl (Nat.le_of_ble_eq_true rfl) ?_
  intro p e s m args below meth c Q ls A hx hb hml hown hts hP hK hD hA hS hl hret
  have hown : s.vm.findClass RX3 = some m.cls := hown
  have hl : lv_has ls 1 [(0, .ref (a 0))] := hl
  have i3 : ∀ w ∈ wsX30, w ∈ wsX3_clear := by decide +kernel
  have i5 : ∀ w ∈ wsX50, w ∈ wsX3_clear := by decide +kernel
  have i6 : ∀ w ∈ wsX60, w ∈ wsX3_clear := by decide +kernel
  have i8 : ∀ w ∈ wsX80, w ∈ wsX3_clear := by decide +kernel
  have w1 := hts (Cond.fieldLink RX3 32 "MoonComplaintWindow$Office" "night" "I") (List.mem_of_getElem? (i := 1) rfl)
  have w2 := hts (Cond.fieldLink RX3 12 "MoonComplaintWindow$Office" "sky" "LMoonComplaintWindow$Sky;") (List.mem_of_getElem? (i := 2) rfl)
  have w3 := hts (Cond.fieldLink RX3 36 "MoonComplaintWindow$Sky" "total" "I") (List.mem_of_getElem? (i := 3) rfl)
  have w4 := hts (Cond.fieldLink RX3 21 "MoonComplaintWindow$Office" "staff" "LMoonComplaintWindow$Staff;") (List.mem_of_getElem? (i := 4) rfl)
  have w5 := hts (Cond.fieldLink RX3 39 "MoonComplaintWindow$Staff" "total" "I") (List.mem_of_getElem? (i := 5) rfl)
  have w6 := hts (Cond.fieldLink RX3 40 "MoonComplaintWindow$Staff" "oilUsed" "I") (List.mem_of_getElem? (i := 6) rfl)
  have w7 := hts (Cond.fieldLink RX3 28 "MoonComplaintWindow$Office" "pile" "LMoonComplaintWindow$Pile;") (List.mem_of_getElem? (i := 7) rfl)
  have w8 := hts (Cond.fieldLink RX3 43 "MoonComplaintWindow$Pile" "total" "I") (List.mem_of_getElem? (i := 8) rfl)
  refine lv_aload_n hx hb dX3_clear_0 rfl (lv_at hl 0 rfl) ?_
  refine lv_iconst (v := 0) hx hb dX3_clear_1 (by decide) ?_
  refine va_put (D := D) (ci := 3) (v := .int (0)) (ty := .int) (C := RX3) (T := TX3) (N := 4) hx hb hts i3 tyX3 tyX3_ok nmX3 hown hK hP hD hS 0 rfl rfl 0 (by decide) w1 (fun _ h9 => h9) rfl (by decide +kernel) rfl rfl (Nat.le_of_ble_eq_true rfl) dX3_clear_2 (fun H locs hP hD hS => ?_)
  have hP : va_P D vwCl (OFF T a ((va_up o 0 (va_up (o 0) 0 0)))) H := hP
  have hD : va_D A (OFF T a ((va_up o 0 (va_up (o 0) 0 0)))) := hD
  refine lv_aload_n hx hb dX3_clear_5 rfl (lv_at hl 0 rfl) ?_
  refine va_get (D := D) (ci := 3) (v := .ref (a 1)) (C := RX3) (T := TX3) (N := 4) hx hb hts i3 hown hK hP 0 rfl rfl 1 (by decide) w2 (fun _ h9 => h9) rfl dX3_clear_6 ?_
  refine lv_iconst (v := 0) hx hb dX3_clear_9 (by decide) ?_
  refine va_put (D := D) (ci := 6) (v := .int (0)) (ty := .int) (C := RX6) (T := TX6) (N := 5) hx hb hts i6 tyX6 tyX6_ok nmX6 hown hK hP hD hS 1 rfl rfl 3 (by decide) w3 (fun _ h9 => h9) rfl (by decide +kernel) rfl rfl (Nat.le_of_ble_eq_true rfl) dX3_clear_10 (fun H locs hP hD hS => ?_)
  have hP : va_P D vwCl (OFF T a ((va_up o 0 (va_up (va_up (o 0) 0 0) 4 0)))) H := hP
  have hD : va_D A (OFF T a ((va_up o 0 (va_up (va_up (o 0) 0 0) 4 0)))) := hD
  refine lv_aload_n hx hb dX3_clear_13 rfl (lv_at hl 0 rfl) ?_
  refine va_get (D := D) (ci := 3) (v := .ref (a 3)) (C := RX3) (T := TX3) (N := 4) hx hb hts i3 hown hK hP 0 rfl rfl 2 (by decide) w4 (fun _ h9 => h9) rfl dX3_clear_14 ?_
  refine lv_iconst (v := 0) hx hb dX3_clear_17 (by decide) ?_
  refine va_put (D := D) (ci := 8) (v := .int (0)) (ty := .int) (C := RX8) (T := TX8) (N := 4) hx hb hts i8 tyX8 tyX8_ok nmX8 hown hK hP hD hS 3 rfl rfl 0 (by decide) w5 (fun _ h9 => h9) rfl (by decide +kernel) rfl rfl (Nat.le_of_ble_eq_true rfl) dX3_clear_18 (fun H locs hP hD hS => ?_)
  have hP : va_P D vwCl (OFF T a ((va_up o 0 (va_up (va_up (va_up (o 0) 0 0) 4 0) 5 0)))) H := hP
  have hD : va_D A (OFF T a ((va_up o 0 (va_up (va_up (va_up (o 0) 0 0) 4 0) 5 0)))) := hD
  refine lv_aload_n hx hb dX3_clear_21 rfl (lv_at hl 0 rfl) ?_
  refine va_get (D := D) (ci := 3) (v := .ref (a 3)) (C := RX3) (T := TX3) (N := 4) hx hb hts i3 hown hK hP 0 rfl rfl 2 (by decide) w4 (fun _ h9 => h9) rfl dX3_clear_22 ?_
  refine lv_iconst (v := 0) hx hb dX3_clear_25 (by decide) ?_
  refine va_put (D := D) (ci := 8) (v := .int (0)) (ty := .int) (C := RX8) (T := TX8) (N := 4) hx hb hts i8 tyX8 tyX8_ok nmX8 hown hK hP hD hS 3 rfl rfl 1 (by decide) w6 (fun _ h9 => h9) rfl (by decide +kernel) rfl rfl (Nat.le_of_ble_eq_true rfl) dX3_clear_26 (fun H locs hP hD hS => ?_)
  have hP : va_P D vwCl (OFF T a ((va_up o 0 (va_up (va_up (va_up (va_up (o 0) 0 0) 4 0) 5 0) 6 0)))) H := hP
  have hD : va_D A (OFF T a ((va_up o 0 (va_up (va_up (va_up (va_up (o 0) 0 0) 4 0) 5 0) 6 0)))) := hD
  refine lv_aload_n hx hb dX3_clear_29 rfl (lv_at hl 0 rfl) ?_
  refine va_get (D := D) (ci := 3) (v := .ref (a 6)) (C := RX3) (T := TX3) (N := 4) hx hb hts i3 hown hK hP 0 rfl rfl 3 (by decide) w7 (fun _ h9 => h9) rfl dX3_clear_30 ?_
  refine lv_iconst (v := 0) hx hb dX3_clear_33 (by decide) ?_
  refine va_put (D := D) (ci := 5) (v := .int (0)) (ty := .int) (C := RX5) (T := TX5) (N := 8) hx hb hts i5 tyX5 tyX5_ok nmX5 hown hK hP hD hS 6 rfl rfl 0 (by decide) w8 (fun _ h9 => h9) rfl (by decide +kernel) rfl rfl (Nat.le_of_ble_eq_true rfl) dX3_clear_34 (fun H locs hP hD hS => ?_)
  have hP : va_P D vwCl (OFF T a ((va_up o 0 (va_up (va_up (va_up (va_up (va_up (o 0) 0 0) 4 0) 5 0) 6 0) 7 0)))) H := hP
  have hD : va_D A (OFF T a ((va_up o 0 (va_up (va_up (va_up (va_up (va_up (o 0) 0 0) 4 0) 5 0) 6 0) 7 0)))) := hD
  exact hret _ _ _ _ dX3_clear_37 hP hD hS

set_option maxHeartbeats 4000000 in
set_option maxRecDepth 100000 in
theorem c_X3_endOneNight (l : Launch) (D : va_G) (T : Nat → ClassId) (a : Nat → Nat) (o : Nat → Nat → Int32) (N : Nat) (K : Nat) (C : Nat) (k : Nat) (hN : o 0 7 = nI N) (hN2 : N ≤ 24) (hKn : o 0 5 = nI K) (hK2 : K ≤ 5) (hC : o 0 4 = nI C) (hC1 : 0 < C) (hC2 : C ≤ 10) (hk : k < 2 ^ 20) (hn : o 0 0 = nI k) (hSK : ∀ j, j < K → ∃ S, S ≤ 9 ∧ o 2 j = nI S) (sz : Nat) : Met l yX3_endOneNight wsX3_endOneNight ({ frames := 5, cells := 0, slots := 0, locals := 107 } : Room) (va_Pc [.ref (a 0)] (PS D T (OFF T a o) sz)) (va_Qi (fun r9 (_ : Unit) => r9 = ((nightC N K C k o).1)) (fun _ t => QS D T (va_A (OFF T a o) sz) (OFF T a ((nightC N K C k o).2)) t) (va_A (OFF T a o) sz)) 0 0 (va_A (OFF T a o) sz) := by
  refine metSi (cc := cX3_endOneNight) (maxL := 5) (ty := .int) (by decide) rfl (by rfl) (Nat.le_of_ble_eq_true rfl) ?_
  intro p e s m args below meth c Q ls A hx hb hml hown hts hP hK hD hA hS hl hret
  have hown : s.vm.findClass RX3 = some m.cls := hown
  have hl : lv_has ls 5 [(0, .ref (a 0))] := hl
  have i3 : ∀ w ∈ wsX30, w ∈ wsX3_endOneNight := by decide +kernel
  have i8 : ∀ w ∈ wsX80, w ∈ wsX3_endOneNight := by decide +kernel
  have w1 := hts (Cond.fieldLink RX3 12 "MoonComplaintWindow$Office" "sky" "LMoonComplaintWindow$Sky;") (List.mem_of_getElem? (i := 1) rfl)
  have w2 := hts (Cond.fieldLink RX3 32 "MoonComplaintWindow$Office" "night" "I") (List.mem_of_getElem? (i := 2) rfl)
  have w3 := hts (Cond.fieldLink RX3 21 "MoonComplaintWindow$Office" "staff" "LMoonComplaintWindow$Staff;") (List.mem_of_getElem? (i := 3) rfl)
  have w4 := hts (Cond.fieldLink RX3 39 "MoonComplaintWindow$Staff" "total" "I") (List.mem_of_getElem? (i := 4) rfl)
  have w5 := hts (Cond.fieldLink RX3 28 "MoonComplaintWindow$Office" "pile" "LMoonComplaintWindow$Pile;") (List.mem_of_getElem? (i := 5) rfl)
  refine lv_aload_n hx hb dX3_endOneNight_0 rfl (lv_at hl 0 rfl) ?_
  refine va_get (D := D) (ci := 3) (v := .ref (a 1)) (C := RX3) (T := TX3) (N := 4) hx hb hts i3 hown hK hP 0 rfl rfl 1 (by decide) w1 (fun _ h9 => h9) rfl dX3_endOneNight_1 ?_
  refine lv_aload_n hx hb dX3_endOneNight_4 rfl (lv_at hl 0 rfl) ?_
  refine va_get (D := D) (ci := 3) (v := .int (o 0 0)) (C := RX3) (T := TX3) (N := 4) hx hb hts i3 hown hK hP 0 rfl rfl 0 (by decide) w2 (fun _ h9 => h9) rfl dX3_endOneNight_5 ?_
  refine endI (r := nI k) (hn) ?_
  refine rdV (As := [.int (nI k)]) (rest := []) ⟨hx, hb, hml, hown, hts⟩ (c_X6_justifiedSorts l D T a o k C hC hC1 hC2 hk) (cwV 1 hts gX3_endOneNight_X6_justifiedSorts rfl rfl rfl (by decide +kernel) ⟨Nat.le_of_ble_eq_true rfl, Nat.le_of_ble_eq_true rfl⟩) hK hP 1 rfl rfl rfl hl.1 rfl (Nat.le_of_ble_eq_true rfl) ⟨Nat.zero_le _, Nat.zero_le _⟩ dX3_endOneNight_8 ?_
  refine lv_istore_n (lv' := [(1, .int (maskI (fun q => justB q (o 0 1) (o 0 2) (o 0 3) k (o 1 (k % C))) 4 0 0)), (0, .ref (a 0))]) hx hb dX3_endOneNight_11 rfl hl (by decide) rfl (fun ls hl => ?_)
  refine lv_aload_n hx hb dX3_endOneNight_12 rfl (lv_at hl 1 rfl) ?_
  refine va_get (D := D) (ci := 3) (v := .ref (a 1)) (C := RX3) (T := TX3) (N := 4) hx hb hts i3 hown hK hP 0 rfl rfl 1 (by decide) w1 (fun _ h9 => h9) rfl dX3_endOneNight_13 ?_
  refine lv_aload_n hx hb dX3_endOneNight_16 rfl (lv_at hl 1 rfl) ?_
  refine va_get (D := D) (ci := 3) (v := .int (o 0 0)) (C := RX3) (T := TX3) (N := 4) hx hb hts i3 hown hK hP 0 rfl rfl 0 (by decide) w2 (fun _ h9 => h9) rfl dX3_endOneNight_17 ?_
  refine endI (r := nI k) (hn) ?_
  refine rdV (As := [.int (nI k)]) (rest := []) ⟨hx, hb, hml, hown, hts⟩ (c_X6_costIn l D T a o k C hC hC1 hC2 hk) (cwV 1 hts gX3_endOneNight_X6_costIn rfl rfl rfl (by decide +kernel) ⟨Nat.le_of_ble_eq_true rfl, Nat.le_of_ble_eq_true rfl⟩) hK hP 1 rfl rfl rfl hl.1 rfl (Nat.le_of_ble_eq_true rfl) ⟨Nat.zero_le _, Nat.zero_le _⟩ dX3_endOneNight_20 ?_
  refine lv_istore_n (lv' := [(2, .int (6 - visI k (o 1 (k % C)) / 3)), (1, .int (maskI (fun q => justB q (o 0 1) (o 0 2) (o 0 3) k (o 1 (k % C))) 4 0 0)), (0, .ref (a 0))]) hx hb dX3_endOneNight_23 rfl hl (by decide) rfl (fun ls hl => ?_)
  refine lv_iconst (v := 0) hx hb dX3_endOneNight_24 (by decide) ?_
  refine lv_istore_n (lv' := [(3, .int (0)), (2, .int (6 - visI k (o 1 (k % C)) / 3)), (1, .int (maskI (fun q => justB q (o 0 1) (o 0 2) (o 0 3) k (o 1 (k % C))) 4 0 0)), (0, .ref (a 0))]) hx hb dX3_endOneNight_25 rfl hl (by decide) rfl (fun ls hl => ?_)
  refine lv_iconst (v := 0) hx hb dX3_endOneNight_26 (by decide) ?_
  refine lv_istore (lv' := [(4, .int (0)), (3, .int (0)), (2, .int (6 - visI k (o 1 (k % C)) / 3)), (1, .int (maskI (fun q => justB q (o 0 1) (o 0 2) (o 0 3) k (o 1 (k % C))) 4 0 0)), (0, .ref (a 0))]) hx hb dX3_endOneNight_27 hl (by decide) rfl (fun ls hl => ?_)
  have L29 : ∀ (n9 : Nat) (i : Nat) (x : Int32) (o1 : Nat → Nat → Int32), (K - i) < n9 → (i ≤ K) → (iter (clerksC N (bitsC C k o) (costC C k o)) (K - i) i (x, o1) = clerksNightC N K C k o) → (o1 0 7 = nI N) → (o1 0 5 = nI K) → (o1 0 0 = nI k) → (o1 2 = o 2) → ∀ (H : Heap) (locs : List Loc) (ls : Array Slot), va_P D vwCl (OFF T a o1) H → va_D A (OFF T a o1) → va_S A s.heap H locs → lv_has ls 5 [(4, .int (nI i)), (3, .int (x)), (2, .int (6 - visI k (o 1 (k % C)) / 3)), (1, .int (maskI (fun q => justB q (o 0 1) (o 0 2) (o 0 3) k (o 1 (k % C))) 4 0 0)), (0, .ref (a 0))] → W p l e ({ frames := 5, cells := 0, slots := 0, locals := 107 } : Room) s m args below meth c H locs 0 0 Q (F0 m 29 ls []) := by
    intro n9
    induction n9 with
    | zero => intro i x o1 hm9; exact absurd hm9 (Nat.not_lt_zero _)
    | succ n9 ih =>
      intro i x o1 hm9 hk9 hR hN1 hK1 hn1 hs1 H locs ls hP hD hS hl
      refine lv_iload hx hb dX3_endOneNight_29 (lv_at hl 0 rfl) ?_
      refine lv_aload_n hx hb dX3_endOneNight_31 rfl (lv_at hl 4 rfl) ?_
      refine va_get (D := D) (ci := 3) (v := .ref (a 3)) (C := RX3) (T := TX3) (N := 4) hx hb hts i3 hown hK hP 0 rfl rfl 2 (by decide) w3 (fun _ h9 => h9) rfl dX3_endOneNight_32 ?_
      refine va_get (D := D) (ci := 8) (v := .int (o1 0 5)) (C := RX8) (T := TX8) (N := 4) hx hb hts i8 hown hK hP 3 rfl rfl 0 (by decide) w4 (fun _ h9 => h9) rfl dX3_endOneNight_35 ?_
      refine endI (r := nI K) (hK1) ?_
      refine lv_icmp_ge (tgt := 58) hx hb dX3_endOneNight_38 (by decide) (fun c38 => ?_) (fun c38 => ?_)
      ·
        have c38 : K ≤ i := (nI_leI (a := K) (b := i) (by omega) (by omega)).mp c38
        refine lv_aload_n hx hb dX3_endOneNight_58 rfl (lv_at hl 4 rfl) ?_
        refine lv_dup hx hb dX3_endOneNight_59 rfl ?_
        refine va_get (D := D) (ci := 3) (v := .int (o1 0 0)) (C := RX3) (T := TX3) (N := 4) hx hb hts i3 hown hK hP 0 rfl rfl 0 (by decide) w2 (fun _ h9 => h9) rfl dX3_endOneNight_60 ?_
        refine endI (r := nI k) (hn1) ?_
        refine lv_iconst (v := 1) hx hb dX3_endOneNight_63 (by decide) ?_
        refine lv_iadd hx hb dX3_endOneNight_64 ?_
        refine endI (r := nI (k + 1)) (nI_add _ _) ?_
        refine va_put (D := D) (ci := 3) (v := .int (nI (k + 1))) (ty := .int) (C := RX3) (T := TX3) (N := 4) hx hb hts i3 tyX3 tyX3_ok nmX3 hown hK hP hD hS 0 rfl rfl 0 (by decide) w2 (fun _ h9 => h9) rfl (by decide +kernel) rfl rfl (Nat.le_of_ble_eq_true rfl) dX3_endOneNight_65 (fun H locs hP hD hS => ?_)
        have hP : va_P D vwCl (OFF T a ((va_up o1 0 (va_up (o1 0) 0 (nI (k + 1)))))) H := hP
        have hD : va_D A (OFF T a ((va_up o1 0 (va_up (o1 0) 0 (nI (k + 1)))))) := hD
        refine lv_aload_n hx hb dX3_endOneNight_68 rfl (lv_at hl 4 rfl) ?_
        refine va_get (D := D) (ci := 3) (v := .ref (a 6)) (C := RX3) (T := TX3) (N := 4) hx hb hts i3 hown hK hP 0 rfl rfl 3 (by decide) w5 (fun _ h9 => h9) rfl dX3_endOneNight_69 ?_
        refine lv_aload_n hx hb dX3_endOneNight_72 rfl (lv_at hl 4 rfl) ?_
        refine va_get (D := D) (ci := 3) (v := .int (nI (k + 1))) (C := RX3) (T := TX3) (N := 4) hx hb hts i3 hown hK hP 0 rfl rfl 0 (by decide) w2 (fun _ h9 => h9) rfl dX3_endOneNight_73 ?_
        refine wrVv (As := [.int (nI (k + 1))]) (rest := []) ⟨hx, hb, hml, hown, hts⟩ (c_X5_growOlder l D T a ((va_up o1 0 (va_up (o1 0) 0 (nI (k + 1))))) (nI (k + 1)) N hN1 hN2 _) (cwV 1 hts gX3_endOneNight_X5_growOlder rfl rfl rfl (by decide +kernel) ⟨Nat.le_of_ble_eq_true rfl, Nat.le_of_ble_eq_true rfl⟩) (Foc.rfl _ _) hK hP hD hS hA 6 rfl rfl rfl hl.1 rfl (Nat.le_of_ble_eq_true rfl) ⟨Nat.zero_le _, Nat.zero_le _⟩ dX3_endOneNight_76 (fun H locs hP hD hS => ?_)
        have hP : va_P D vwCl (OFF T a (iter (growC (nI (k + 1))) N 0 ((va_up o1 0 (va_up (o1 0) 0 (nI (k + 1))))))) H := hP
        have hD : va_D A (OFF T a (iter (growC (nI (k + 1))) N 0 ((va_up o1 0 (va_up (o1 0) 0 (nI (k + 1))))))) := hD
        refine lv_iload_n hx hb dX3_endOneNight_79 rfl (lv_at hl 1 rfl) ?_
        refine endI (r := (nightC N K C k o).1) (by rw [iter_done (by omega)] at hR; exact congrArg Prod.fst hR) ?_
        have hE : iter (growC (nI (k + 1))) N 0 ((va_up o1 0 (va_up (o1 0) 0 (nI (k + 1))))) = (nightC N K C k o).2 := by rw [iter_done (by omega)] at hR; unfold nightC; rw [← hR]
        exact hret _ _ _ _ dX3_endOneNight_80 (by rw [← hE]; exact hP) (by rw [← hE]; exact hD) hS
      ·
        have c38 : ¬ K ≤ i := fun h9 => c38 ((nI_leI (a := K) (b := i) (by omega) (by omega)).mpr h9)
        refine lv_iload_n hx hb dX3_endOneNight_41 rfl (lv_at hl 1 rfl) ?_
        refine lv_aload_n hx hb dX3_endOneNight_42 rfl (lv_at hl 4 rfl) ?_
        refine lv_iload hx hb dX3_endOneNight_43 (lv_at hl 0 rfl) ?_
        refine lv_iload_n hx hb dX3_endOneNight_45 rfl (lv_at hl 3 rfl) ?_
        refine lv_iload_n hx hb dX3_endOneNight_46 rfl (lv_at hl 2 rfl) ?_
        refine wrVi (As := [.int (nI i), .int (maskI (fun q => justB q (o 0 1) (o 0 2) (o 0 3) k (o 1 (k % C))) 4 0 0), .int (6 - visI k (o 1 (k % C)) / 3)]) (rest := [.int (x)]) ⟨hx, hb, hml, hown, hts⟩ (c_X3_workOf l D T a o1 i (maskI (fun q => justB q (o 0 1) (o 0 2) (o 0 3) k (o 1 (k % C))) 4 0 0) (6 - visI k (o 1 (k % C)) / 3) N K hN1 hN2 hK1 hK2 (by omega) (by rw [hs1]; exact hSK _ (by omega)) _) (cwV 3 hts gX3_endOneNight_X3_workOf rfl rfl rfl (by decide +kernel) ⟨Nat.le_of_ble_eq_true rfl, Nat.le_of_ble_eq_true rfl⟩) (Foc.rfl _ _) hK hP hD hS hA 0 rfl rfl rfl hl.1 rfl (Nat.le_of_ble_eq_true rfl) ⟨Nat.zero_le _, Nat.zero_le _⟩ dX3_endOneNight_47 (fun H locs hP hD hS => ?_)
        have hP : va_P D vwCl (OFF T a ((workC N i (maskI (fun q => justB q (o 0 1) (o 0 2) (o 0 3) k (o 1 (k % C))) 4 0 0) (6 - visI k (o 1 (k % C)) / 3) (1 + o1 2 i / 3).toNatClampNeg 0 o1).2)) H := hP
        have hD : va_D A (OFF T a ((workC N i (maskI (fun q => justB q (o 0 1) (o 0 2) (o 0 3) k (o 1 (k % C))) 4 0 0) (6 - visI k (o 1 (k % C)) / 3) (1 + o1 2 i / 3).toNatClampNeg 0 o1).2)) := hD
        refine lv_iadd hx hb dX3_endOneNight_50 ?_
        refine lv_istore_n (lv' := [(3, .int (x + ((workC N i (maskI (fun q => justB q (o 0 1) (o 0 2) (o 0 3) k (o 1 (k % C))) 4 0 0) (6 - visI k (o 1 (k % C)) / 3) (1 + o1 2 i / 3).toNatClampNeg 0 o1).1))), (4, .int (nI i)), (2, .int (6 - visI k (o 1 (k % C)) / 3)), (1, .int (maskI (fun q => justB q (o 0 1) (o 0 2) (o 0 3) k (o 1 (k % C))) 4 0 0)), (0, .ref (a 0))]) hx hb dX3_endOneNight_51 rfl hl (by decide) rfl (fun ls hl => ?_)
        refine lv_iinc (v := nI (i + 1)) (lv' := [(4, .int (nI (i + 1))), (3, .int (x + ((workC N i (maskI (fun q => justB q (o 0 1) (o 0 2) (o 0 3) k (o 1 (k % C))) 4 0 0) (6 - visI k (o 1 (k % C)) / 3) (1 + o1 2 i / 3).toNatClampNeg 0 o1).1))), (2, .int (6 - visI k (o 1 (k % C)) / 3)), (1, .int (maskI (fun q => justB q (o 0 1) (o 0 2) (o 0 3) k (o 1 (k % C))) 4 0 0)), (0, .ref (a 0))]) hx hb dX3_endOneNight_52 hl (k := 1) rfl (nI_1 _) (by decide) rfl (fun ls hl => ?_)
        refine lv_goto (tgt := 29) hx hb dX3_endOneNight_55 (by decide) ?_
        exact ih (i + 1) (x + ((workC N i (maskI (fun q => justB q (o 0 1) (o 0 2) (o 0 3) k (o 1 (k % C))) 4 0 0) (6 - visI k (o 1 (k % C)) / 3) (1 + o1 2 i / 3).toNatClampNeg 0 o1).1)) ((workC N i (maskI (fun q => justB q (o 0 1) (o 0 2) (o 0 3) k (o 1 (k % C))) 4 0 0) (6 - visI k (o 1 (k % C)) / 3) (1 + o1 2 i / 3).toNatClampNeg 0 o1).2) (by omega) (by omega) (by rw [iter_step (by omega)] at hR; exact hR) (by exact (workC_keep.2.2.1 7 (by decide)).trans hN1) (by exact (workC_keep.2.2.1 5 (by decide)).trans hK1) (by exact (workC_keep.2.2.1 0 (by decide)).trans hn1) (by exact workC_keep.1.trans hs1) _ _ _ hP hD hS (lv_sub hl [0, 1, 2, 3, 4] rfl)
  exact L29 _ 0 0 o (Nat.lt_succ_self _) (by omega) (by rfl) (by exact hN) (by exact hKn) (by exact hn) (by rfl) _ _ _ hP hD hS (lv_sub hl [0, 1, 2, 3, 4] rfl)
