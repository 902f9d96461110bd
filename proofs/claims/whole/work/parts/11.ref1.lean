set_option maxHeartbeats 4000000 in
set_option maxRecDepth 100000 in
theorem c_X10_in (l : Launch) (D : va_G) (T : Nat → ClassId)  (z : Int32) (z1 : Int32) (z2 : Int32) : Met l yX10_in wsX10_in ({ frames := 0, cells := 0, slots := 0, locals := 0 } : Room) (va_Pc [.int (z), .int (z1), .int (z2)] (fun _ => True)) (QcRead (bI (rg z z1 z2))) 0 0 (fun _ => False) := by
  refine metT (cc := cX10_in) (maxL := 3) (ty := .boolean) (by decide) rfl (by exact bI_nb _) (Nat.le_of_ble_eq_true rfl) ?_
  intro p e s m args below meth c Q ls hx hb hml hown hts hl hret
  have hown : s.vm.findClass RX10 = some m.cls := hown
  have hl : lv_has ls 3 [(0, .int (z)), (1, .int (z1)), (2, .int (z2))] := hl
  refine lv_iload_n hx hb dX10_in_0 rfl (lv_at hl 1 rfl) ?_
  refine lv_iload_n hx hb dX10_in_1 rfl (lv_at hl 0 rfl) ?_
  refine lv_icmp_gt (tgt := 14) hx hb dX10_in_2 (by decide) (fun c2 => ?_) (fun c2 => ?_)
  ·
    refine lv_iconst (v := 0) hx hb dX10_in_14 (by decide) ?_
    refine endI (r := bI (rg z z1 z2)) (by (first | have c2x := Int32.not_lt.mp c2 | have c2x := Int32.not_le.mp c2 | have c2x := Int32.not_lt.mpr c2 | have c2x := Int32.not_le.mpr c2 | have c2x := c2); simp [bI, rg, c2, c2x]) ?_
    exact hret ls _ dX10_in_15
  ·
    refine lv_iload_n hx hb dX10_in_5 rfl (lv_at hl 0 rfl) ?_
    refine lv_iload_n hx hb dX10_in_6 rfl (lv_at hl 2 rfl) ?_
    refine lv_icmp_gt (tgt := 14) hx hb dX10_in_7 (by decide) (fun c7 => ?_) (fun c7 => ?_)
    ·
      refine lv_iconst (v := 0) hx hb dX10_in_14 (by decide) ?_
      refine endI (r := bI (rg z z1 z2)) (by (first | have c2x := Int32.not_lt.mp c2 | have c2x := Int32.not_le.mp c2 | have c2x := Int32.not_lt.mpr c2 | have c2x := Int32.not_le.mpr c2 | have c2x := c2); (first | have c7x := Int32.not_lt.mp c7 | have c7x := Int32.not_le.mp c7 | have c7x := Int32.not_lt.mpr c7 | have c7x := Int32.not_le.mpr c7 | have c7x := c7); simp [bI, rg, c2, c7, c2x, c7x]) ?_
      exact hret ls _ dX10_in_15
    ·
      refine lv_iconst (v := 1) hx hb dX10_in_10 (by decide) ?_
      refine lv_goto (tgt := 15) hx hb dX10_in_11 (by decide) ?_
      refine endI (r := bI (rg z z1 z2)) (by (first | have c2x := Int32.not_lt.mp c2 | have c2x := Int32.not_le.mp c2 | have c2x := Int32.not_lt.mpr c2 | have c2x := Int32.not_le.mpr c2 | have c2x := c2); (first | have c7x := Int32.not_lt.mp c7 | have c7x := Int32.not_le.mp c7 | have c7x := Int32.not_lt.mpr c7 | have c7x := Int32.not_le.mpr c7 | have c7x := c7); simp [bI, rg, c2, c7, c2x, c7x]) ?_
      exact hret ls _ dX10_in_15

set_option maxHeartbeats 4000000 in
set_option maxRecDepth 100000 in
theorem c_X10_less (l : Launch) (D : va_G) (T : Nat → ClassId)  (z : Int32) (z1 : Int32) : Met l yX10_less wsX10_less ({ frames := 0, cells := 0, slots := 0, locals := 0 } : Room) (va_Pc [.int (z), .int (z1)] (fun _ => True)) (QcRead (if z < z1 then z else z1)) 0 0 (fun _ => False) := by
  refine metT (cc := cX10_less) (maxL := 2) (ty := .int) (by decide) rfl (by rfl) (Nat.le_of_ble_eq_true rfl) ?_
  intro p e s m args below meth c Q ls hx hb hml hown hts hl hret
  have hown : s.vm.findClass RX10 = some m.cls := hown
  have hl : lv_has ls 2 [(0, .int (z)), (1, .int (z1))] := hl
  refine lv_iload_n hx hb dX10_less_0 rfl (lv_at hl 0 rfl) ?_
  refine lv_iload_n hx hb dX10_less_1 rfl (lv_at hl 1 rfl) ?_
  refine lv_icmp_ge (tgt := 7) hx hb dX10_less_2 (by decide) (fun c2 => ?_) (fun c2 => ?_)
  ·
    refine lv_iload_n hx hb dX10_less_7 rfl (lv_at hl 1 rfl) ?_
    refine endI (r := if z < z1 then z else z1) (by (first | have c2x := Int32.not_lt.mp c2 | have c2x := Int32.not_le.mp c2 | have c2x := Int32.not_lt.mpr c2 | have c2x := Int32.not_le.mpr c2 | have c2x := c2); simp [c2, c2x]) ?_
    exact hret ls _ dX10_less_8
  ·
    refine lv_iload_n hx hb dX10_less_5 rfl (lv_at hl 0 rfl) ?_
    refine endI (r := if z < z1 then z else z1) (by (first | have c2x := Int32.not_lt.mp c2 | have c2x := Int32.not_le.mp c2 | have c2x := Int32.not_lt.mpr c2 | have c2x := Int32.not_le.mpr c2 | have c2x := c2); simp [c2, c2x]) ?_
    exact hret ls _ dX10_less_6

set_option maxHeartbeats 4000000 in
set_option maxRecDepth 100000 in
theorem c_X10_apart (l : Launch) (D : va_G) (T : Nat → ClassId)  (z : Int32) (z1 : Int32) : Met l yX10_apart wsX10_apart ({ frames := 0, cells := 0, slots := 0, locals := 0 } : Room) (va_Pc [.int (z), .int (z1)] (fun _ => True)) (QcRead (apartI z z1)) 0 0 (fun _ => False) := by
  refine metT (cc := cX10_apart) (maxL := 2) (ty := .int) (by decide) rfl (by rfl) (Nat.le_of_ble_eq_true rfl) ?_
  intro p e s m args below meth c Q ls hx hb hml hown hts hl hret
  have hown : s.vm.findClass RX10 = some m.cls := hown
  have hl : lv_has ls 2 [(0, .int (z)), (1, .int (z1))] := hl
  refine lv_iload_n hx hb dX10_apart_0 rfl (lv_at hl 0 rfl) ?_
  refine lv_iload_n hx hb dX10_apart_1 rfl (lv_at hl 1 rfl) ?_
  refine lv_icmp_le (tgt := 9) hx hb dX10_apart_2 (by decide) (fun c2 => ?_) (fun c2 => ?_)
  ·
    refine lv_iload_n hx hb dX10_apart_9 rfl (lv_at hl 1 rfl) ?_
    refine lv_iload_n hx hb dX10_apart_10 rfl (lv_at hl 0 rfl) ?_
    refine lv_isub hx hb dX10_apart_11 ?_
    refine endI (r := apartI z z1) (by (first | have c2x := Int32.not_lt.mp c2 | have c2x := Int32.not_le.mp c2 | have c2x := Int32.not_lt.mpr c2 | have c2x := Int32.not_le.mpr c2 | have c2x := c2); simp [apartI, c2, c2x]) ?_
    exact hret ls _ dX10_apart_12
  ·
    refine lv_iload_n hx hb dX10_apart_5 rfl (lv_at hl 0 rfl) ?_
    refine lv_iload_n hx hb dX10_apart_6 rfl (lv_at hl 1 rfl) ?_
    refine lv_isub hx hb dX10_apart_7 ?_
    refine endI (r := apartI z z1) (by (first | have c2x := Int32.not_lt.mp c2 | have c2x := Int32.not_le.mp c2 | have c2x := Int32.not_lt.mpr c2 | have c2x := Int32.not_le.mpr c2 | have c2x := c2); simp [apartI, c2, c2x]) ?_
    exact hret ls _ dX10_apart_8

set_option maxHeartbeats 4000000 in
set_option maxRecDepth 100000 in
theorem c_X10_clerkAt (l : Launch) (D : va_G) (T : Nat → ClassId)  (j : Nat) (f : Nat) : Met l yX10_clerkAt wsX10_clerkAt ({ frames := 0, cells := 0, slots := 0, locals := 0 } : Room) (va_Pc [.int (nI j), .int (nI f)] (fun _ => True)) (QcRead (nI (19 + 3 * j + f))) 0 0 (fun _ => False) := by
  refine metT (cc := cX10_clerkAt) (maxL := 2) (ty := .int) (by decide) rfl (by rfl) (Nat.le_of_ble_eq_true rfl) ?_
  intro p e s m args below meth c Q ls hx hb hml hown hts hl hret
  have hown : s.vm.findClass RX10 = some m.cls := hown
  have hl : lv_has ls 2 [(0, .int (nI j)), (1, .int (nI f))] := hl
  refine lv_bipush (v := 19) hx hb dX10_clerkAt_0 (by decide) ?_
  refine lv_iconst (v := 3) hx hb dX10_clerkAt_2 (by decide) ?_
  refine lv_iload_n hx hb dX10_clerkAt_3 rfl (lv_at hl 0 rfl) ?_
  refine lv_imul hx hb dX10_clerkAt_4 ?_
  refine endI (r := nI (3 * j)) (pk_mul _ _) ?_
  refine lv_iadd hx hb dX10_clerkAt_5 ?_
  refine endI (r := nI (19 + (3 * j))) (nI_add _ _) ?_
  refine lv_iload_n hx hb dX10_clerkAt_6 rfl (lv_at hl 1 rfl) ?_
  refine lv_iadd hx hb dX10_clerkAt_7 ?_
  refine endI (r := nI ((19 + (3 * j)) + f)) (nI_add _ _) ?_
  refine endI (r := nI (19 + 3 * j + f)) (by rfl) ?_
  exact hret ls _ dX10_clerkAt_8

set_option maxHeartbeats 4000000 in
set_option maxRecDepth 100000 in
theorem c_X10_complaintAt (l : Launch) (D : va_G) (T : Nat → ClassId)  (j : Nat) (f : Nat) : Met l yX10_complaintAt wsX10_complaintAt ({ frames := 0, cells := 0, slots := 0, locals := 0 } : Room) (va_Pc [.int (nI j), .int (nI f)] (fun _ => True)) (QcRead (nI (34 + 7 * j + f))) 0 0 (fun _ => False) := by
  refine metT (cc := cX10_complaintAt) (maxL := 2) (ty := .int) (by decide) rfl (by rfl) (Nat.le_of_ble_eq_true rfl) ?_
  intro p e s m args below meth c Q ls hx hb hml hown hts hl hret
  have hown : s.vm.findClass RX10 = some m.cls := hown
  have hl : lv_has ls 2 [(0, .int (nI j)), (1, .int (nI f))] := hl
  refine lv_bipush (v := 34) hx hb dX10_complaintAt_0 (by decide) ?_
  refine lv_bipush (v := 7) hx hb dX10_complaintAt_2 (by decide) ?_
  refine lv_iload_n hx hb dX10_complaintAt_4 rfl (lv_at hl 0 rfl) ?_
  refine lv_imul hx hb dX10_complaintAt_5 ?_
  refine endI (r := nI (7 * j)) (pk_mul _ _) ?_
  refine lv_iadd hx hb dX10_complaintAt_6 ?_
  refine endI (r := nI (34 + (7 * j))) (nI_add _ _) ?_
  refine lv_iload_n hx hb dX10_complaintAt_7 rfl (lv_at hl 1 rfl) ?_
  refine lv_iadd hx hb dX10_complaintAt_8 ?_
  refine endI (r := nI ((34 + (7 * j)) + f)) (nI_add _ _) ?_
  refine endI (r := nI (34 + 7 * j + f)) (by rfl) ?_
  exact hret ls _ dX10_complaintAt_9

set_option maxHeartbeats 4000000 in
set_option maxRecDepth 100000 in
theorem c_X10_isSort (l : Launch) (D : va_G) (T : Nat → ClassId)  (z : Int32) : Met l yX10_isSort wsX10_isSort ({ frames := 1, cells := 0, slots := 0, locals := 22 } : Room) (va_Pc [.int (z)] (fun _ => True)) (QcRead (bI (rg z 0 3))) 0 0 (fun _ => False) := by
  refine metT (cc := cX10_isSort) (maxL := 1) (ty := .boolean) (by decide) rfl (by exact bI_nb _) (Nat.le_of_ble_eq_true rfl) ?_
  intro p e s m args below meth c Q ls hx hb hml hown hts hl hret
  have hown : s.vm.findClass RX10 = some m.cls := hown
  have hl : lv_has ls 1 [(0, .int (z))] := hl
  refine lv_iload_n hx hb dX10_isSort_0 rfl (lv_at hl 0 rfl) ?_
  refine lv_iconst (v := 0) hx hb dX10_isSort_1 (by decide) ?_
  refine lv_iconst (v := 3) hx hb dX10_isSort_2 (by decide) ?_
  refine rdT (As := [.int (z), .int (0), .int (3)]) (rest := []) ⟨hx, hb, hml, hown, hts⟩ (c_X10_in l D T z 0 3 ) (va_cwS 3 hts gX10_isSort_X10_in rfl rfl rfl (by decide +kernel) ⟨Nat.le_of_ble_eq_true rfl, Nat.le_of_ble_eq_true rfl⟩) rfl hl.1 rfl (Nat.le_of_ble_eq_true rfl) ⟨Nat.zero_le _, Nat.zero_le _⟩ dX10_isSort_3 ?_
  refine endI (r := bI (rg z 0 3)) (by rfl) ?_
  exact hret ls _ dX10_isSort_6

set_option maxHeartbeats 4000000 in
set_option maxRecDepth 100000 in
theorem c_X10_isPerson (l : Launch) (D : va_G) (T : Nat → ClassId)  (z : Int32) : Met l yX10_isPerson wsX10_isPerson ({ frames := 1, cells := 0, slots := 0, locals := 22 } : Room) (va_Pc [.int (z)] (fun _ => True)) (QcRead (bI (rg z 0 99))) 0 0 (fun _ => False) := by
  refine metT (cc := cX10_isPerson) (maxL := 1) (ty := .boolean) (by decide) rfl (by exact bI_nb _) (Nat.le_of_ble_eq_true rfl) ?_
  intro p e s m args below meth c Q ls hx hb hml hown hts hl hret
  have hown : s.vm.findClass RX10 = some m.cls := hown
  have hl : lv_has ls 1 [(0, .int (z))] := hl
  refine lv_iload_n hx hb dX10_isPerson_0 rfl (lv_at hl 0 rfl) ?_
  refine lv_iconst (v := 0) hx hb dX10_isPerson_1 (by decide) ?_
  refine lv_bipush (v := 99) hx hb dX10_isPerson_2 (by decide) ?_
  refine rdT (As := [.int (z), .int (0), .int (99)]) (rest := []) ⟨hx, hb, hml, hown, hts⟩ (c_X10_in l D T z 0 99 ) (va_cwS 3 hts gX10_isPerson_X10_in rfl rfl rfl (by decide +kernel) ⟨Nat.le_of_ble_eq_true rfl, Nat.le_of_ble_eq_true rfl⟩) rfl hl.1 rfl (Nat.le_of_ble_eq_true rfl) ⟨Nat.zero_le _, Nat.zero_le _⟩ dX10_isPerson_4 ?_
  refine endI (r := bI (rg z 0 99)) (by rfl) ?_
  exact hret ls _ dX10_isPerson_7

set_option maxHeartbeats 4000000 in
set_option maxRecDepth 100000 in
theorem c_X10_isNight (l : Launch) (D : va_G) (T : Nat → ClassId)  (z : Int32) : Met l yX10_isNight wsX10_isNight ({ frames := 1, cells := 0, slots := 0, locals := 22 } : Room) (va_Pc [.int (z)] (fun _ => True)) (QcRead (bI (rg z 0 2000))) 0 0 (fun _ => False) := by
  refine metT (cc := cX10_isNight) (maxL := 1) (ty := .boolean) (by decide) rfl (by exact bI_nb _) (Nat.le_of_ble_eq_true rfl) ?_
  intro p e s m args below meth c Q ls hx hb hml hown hts hl hret
  have hown : s.vm.findClass RX10 = some m.cls := hown
  have hl : lv_has ls 1 [(0, .int (z))] := hl
  refine lv_iload_n hx hb dX10_isNight_0 rfl (lv_at hl 0 rfl) ?_
  refine lv_iconst (v := 0) hx hb dX10_isNight_1 (by decide) ?_
  refine lv_sipush (v := 2000) hx hb dX10_isNight_2 (by decide) ?_
  refine rdT (As := [.int (z), .int (0), .int (2000)]) (rest := []) ⟨hx, hb, hml, hown, hts⟩ (c_X10_in l D T z 0 2000 ) (va_cwS 3 hts gX10_isNight_X10_in rfl rfl rfl (by decide +kernel) ⟨Nat.le_of_ble_eq_true rfl, Nat.le_of_ble_eq_true rfl⟩) rfl hl.1 rfl (Nat.le_of_ble_eq_true rfl) ⟨Nat.zero_le _, Nat.zero_le _⟩ dX10_isNight_5 ?_
  refine endI (r := bI (rg z 0 2000)) (by rfl) ?_
  exact hret ls _ dX10_isNight_8

set_option maxHeartbeats 4000000 in
set_option maxRecDepth 100000 in
theorem c_X10_isTooOld (l : Launch) (D : va_G) (T : Nat → ClassId)  (z : Int32) : Met l yX10_isTooOld wsX10_isTooOld ({ frames := 0, cells := 0, slots := 0, locals := 0 } : Room) (va_Pc [.int (z)] (fun _ => True)) (QcRead (bI (decide (z = 56)))) 0 0 (fun _ => False) := by
  refine metT (cc := cX10_isTooOld) (maxL := 1) (ty := .boolean) (by decide) rfl (by exact bI_nb _) (Nat.le_of_ble_eq_true rfl) ?_
  intro p e s m args below meth c Q ls hx hb hml hown hts hl hret
  have hown : s.vm.findClass RX10 = some m.cls := hown
  have hl : lv_has ls 1 [(0, .int (z))] := hl
  refine lv_iload_n hx hb dX10_isTooOld_0 rfl (lv_at hl 0 rfl) ?_
  refine lv_bipush (v := 56) hx hb dX10_isTooOld_1 (by decide) ?_
  refine lv_icmp_ne (tgt := 10) hx hb dX10_isTooOld_3 (by decide) (fun c3 => ?_) (fun c3 => ?_)
  ·
    refine lv_iconst (v := 0) hx hb dX10_isTooOld_10 (by decide) ?_
    refine endI (r := bI (decide (z = 56))) (by simp [bI, c3]) ?_
    exact hret ls _ dX10_isTooOld_11
  ·
    refine lv_iconst (v := 1) hx hb dX10_isTooOld_6 (by decide) ?_
    refine lv_goto (tgt := 11) hx hb dX10_isTooOld_7 (by decide) ?_
    refine endI (r := bI (decide (z = 56))) (by simp [bI, c3]) ?_
    exact hret ls _ dX10_isTooOld_11

set_option maxHeartbeats 4000000 in
set_option maxRecDepth 100000 in
theorem c_X10_lightOn (l : Launch) (D : va_G) (T : Nat → ClassId)  (k : Nat) (hk : k < 2 ^ 31) : Met l yX10_lightOn wsX10_lightOn ({ frames := 1, cells := 0, slots := 0, locals := 21 } : Room) (va_Pc [.int (nI k)] (fun _ => True)) (QcRead (nI (lightN k))) 0 0 (fun _ => False) := by
  refine metT (cc := cX10_lightOn) (maxL := 1) (ty := .int) (by decide) rfl (by rfl) (Nat.le_of_ble_eq_true rfl) ?_
  intro p e s m args below meth c Q ls hx hb hml hown hts hl hret
  have hown : s.vm.findClass RX10 = some m.cls := hown
  have hl : lv_has ls 1 [(0, .int (nI k))] := hl
  refine lv_bipush (v := 14) hx hb dX10_lightOn_0 (by decide) ?_
  refine lv_bipush (v := 14) hx hb dX10_lightOn_2 (by decide) ?_
  refine lv_iload_n hx hb dX10_lightOn_4 rfl (lv_at hl 0 rfl) ?_
  refine lv_bipush (v := 28) hx hb dX10_lightOn_5 (by decide) ?_
  refine lv_irem hx hb dX10_lightOn_7 (by decide) ?_
  refine endI (r := nI (k % 28)) (rem28 hk) ?_
  refine rdT (As := [.int (14), .int (nI (k % 28))]) (rest := [.int (14)]) ⟨hx, hb, hml, hown, hts⟩ (c_X10_apart l D T 14 (nI (k % 28)) ) (va_cwS 2 hts gX10_lightOn_X10_apart rfl rfl rfl (by decide +kernel) ⟨Nat.le_of_ble_eq_true rfl, Nat.le_of_ble_eq_true rfl⟩) rfl hl.1 rfl (Nat.le_of_ble_eq_true rfl) ⟨Nat.zero_le _, Nat.zero_le _⟩ dX10_lightOn_8 ?_
  refine lv_isub hx hb dX10_lightOn_11 ?_
  refine endI (r := nI (lightN k)) (by exact light_apart k hk) ?_
  exact hret ls _ dX10_lightOn_12

set_option maxHeartbeats 4000000 in
set_option maxRecDepth 100000 in
theorem c_X10_tideOn (l : Launch) (D : va_G) (T : Nat → ClassId)  (k : Nat) (hk : k < 2 ^ 31) : Met l yX10_tideOn wsX10_tideOn ({ frames := 1, cells := 0, slots := 0, locals := 21 } : Room) (va_Pc [.int (nI k)] (fun _ => True)) (QcRead (nI (tideN k))) 0 0 (fun _ => False) := by
  refine metT (cc := cX10_tideOn) (maxL := 1) (ty := .int) (by decide) rfl (by rfl) (Nat.le_of_ble_eq_true rfl) ?_
  intro p e s m args below meth c Q ls hx hb hml hown hts hl hret
  have hown : s.vm.findClass RX10 = some m.cls := hown
  have hl : lv_has ls 1 [(0, .int (nI k))] := hl
  refine lv_bipush (v := 7) hx hb dX10_tideOn_0 (by decide) ?_
  refine lv_iload_n hx hb dX10_tideOn_2 rfl (lv_at hl 0 rfl) ?_
  refine lv_bipush (v := 28) hx hb dX10_tideOn_3 (by decide) ?_
  refine lv_irem hx hb dX10_tideOn_5 (by decide) ?_
  refine endI (r := nI (k % 28)) (rem28 hk) ?_
  refine lv_bipush (v := 14) hx hb dX10_tideOn_6 (by decide) ?_
  refine lv_irem hx hb dX10_tideOn_8 (by decide) ?_
  refine endI (r := nI (k % 28 % 14)) (rem14 (by omega)) ?_
  refine rdT (As := [.int (7), .int (nI (k % 28 % 14))]) (rest := []) ⟨hx, hb, hml, hown, hts⟩ (c_X10_apart l D T 7 (nI (k % 28 % 14)) ) (va_cwS 2 hts gX10_tideOn_X10_apart rfl rfl rfl (by decide +kernel) ⟨Nat.le_of_ble_eq_true rfl, Nat.le_of_ble_eq_true rfl⟩) rfl hl.1 rfl (Nat.le_of_ble_eq_true rfl) ⟨Nat.zero_le _, Nat.zero_le _⟩ dX10_tideOn_9 ?_
  refine endI (r := nI (tideN k)) (by exact tide_apart k) ?_
  exact hret ls _ dX10_tideOn_12

set_option maxHeartbeats 4000000 in
set_option maxRecDepth 100000 in
theorem c_X10_cloudOn (l : Launch) (D : va_G) (T : Nat → ClassId) (b : Nat) (r : Nat → Int32) (k : Nat) (C : Nat) (hC : r 4 = nI C) (hC1 : 0 < C) (hC2 : C ≤ 10) (hk : k < 2 ^ 20) : Met l yX10_cloudOn wsX10_cloudOn ({ frames := 0, cells := 0, slots := 0, locals := 0 } : Room) (va_Pc [.ref (b), .int (nI k)] (PR D T ([(b, .inl (T 0, 202, .inl r))]))) (QcRead (r (9 + k % C))) 0 0 (fun _ => False) := by
  refine metR (cc := cX10_cloudOn) (maxL := 2) (ty := .int) (by decide) rfl (by rfl) (Nat.le_of_ble_eq_true rfl) ?_
  intro p e s m args below meth c Q ls hx hb hml hown hts hP hK hl hret
  have hown : s.vm.findClass RX10 = some m.cls := hown
  have hl : lv_has ls 2 [(0, .ref (b)), (1, .int (nI k))] := hl
  refine lv_aload_n hx hb dX10_cloudOn_0 rfl (lv_at hl 0 rfl) ?_
  refine lv_bipush (v := 9) hx hb dX10_cloudOn_1 (by decide) ?_
  refine lv_iload_n hx hb dX10_cloudOn_3 rfl (lv_at hl 1 rfl) ?_
  refine lv_aload_n hx hb dX10_cloudOn_4 rfl (lv_at hl 0 rfl) ?_
  refine lv_iconst (v := 4) hx hb dX10_cloudOn_5 (by decide) ?_
  refine aldI hx hb hK hP 0 0 rfl rfl (4) rfl (by have := Nat.mod_lt k hC1; omega) (by decide) dX10_cloudOn_6 ?_
  refine endI (r := nI C) (hC) ?_
  refine lv_irem hx hb dX10_cloudOn_7 (nI_ne0 hC1 (by omega)) ?_
  refine endI (r := nI (k % C)) (pk_rem (by omega) hC1 (by omega)) ?_
  refine lv_iadd hx hb dX10_cloudOn_8 ?_
  refine endI (r := nI (9 + (k % C))) (nI_add _ _) ?_
  refine aldI hx hb hK hP 0 0 rfl rfl (9 + (k % C)) rfl (by have := Nat.mod_lt k hC1; omega) (by decide) dX10_cloudOn_9 ?_
  refine endI (r := r (9 + k % C)) (by first | rfl | (simp [*]; done)) ?_
  exact hret ls _ dX10_cloudOn_10

set_option maxHeartbeats 4000000 in
set_option maxRecDepth 100000 in
theorem c_X10_visibleOn (l : Launch) (D : va_G) (T : Nat → ClassId) (b : Nat) (r : Nat → Int32) (k : Nat) (C : Nat) (hC : r 4 = nI C) (hC1 : 0 < C) (hC2 : C ≤ 10) (hk : k < 2 ^ 20) : Met l yX10_visibleOn wsX10_visibleOn ({ frames := 2, cells := 0, slots := 0, locals := 41 } : Room) (va_Pc [.ref (b), .int (nI k)] (PR D T ([(b, .inl (T 0, 202, .inl r))]))) (QcRead (visI k (r (9 + k % C)))) 0 0 (fun _ => False) := by
  refine metR (cc := cX10_visibleOn) (maxL := 2) (ty := .int) (by decide) rfl (by rfl) (Nat.le_of_ble_eq_true rfl) ?_
  intro p e s m args below meth c Q ls hx hb hml hown hts hP hK hl hret
  have hown : s.vm.findClass RX10 = some m.cls := hown
  have hl : lv_has ls 2 [(0, .ref (b)), (1, .int (nI k))] := hl
  refine lv_iload_n hx hb dX10_visibleOn_0 rfl (lv_at hl 1 rfl) ?_
  refine rdT (As := [.int (nI k)]) (rest := []) ⟨hx, hb, hml, hown, hts⟩ (c_X10_lightOn l D T k (by first | omega | assumption | decide)) (va_cwS 1 hts gX10_visibleOn_X10_lightOn rfl rfl rfl (by decide +kernel) ⟨Nat.le_of_ble_eq_true rfl, Nat.le_of_ble_eq_true rfl⟩) rfl hl.1 rfl (Nat.le_of_ble_eq_true rfl) ⟨Nat.zero_le _, Nat.zero_le _⟩ dX10_visibleOn_1 ?_
  refine lv_bipush (v := 10) hx hb dX10_visibleOn_4 (by decide) ?_
  refine lv_aload_n hx hb dX10_visibleOn_6 rfl (lv_at hl 0 rfl) ?_
  refine lv_iload_n hx hb dX10_visibleOn_7 rfl (lv_at hl 1 rfl) ?_
  refine rdS (As := [.ref (b), .int (nI k)]) (rest := [.int (10), .int (nI (lightN k))]) ⟨hx, hb, hml, hown, hts⟩ (c_X10_cloudOn l D T b r k C (by first | omega | assumption | decide) (by first | omega | assumption | decide) (by first | omega | assumption | decide) (by first | omega | assumption | decide)) (va_cwS 2 hts gX10_visibleOn_X10_cloudOn rfl rfl rfl (by decide +kernel) ⟨Nat.le_of_ble_eq_true rfl, Nat.le_of_ble_eq_true rfl⟩) hK hP rfl hl.1 rfl (Nat.le_of_ble_eq_true rfl) ⟨Nat.zero_le _, Nat.zero_le _⟩ dX10_visibleOn_8 ?_
  refine lv_isub hx hb dX10_visibleOn_11 ?_
  refine lv_imul hx hb dX10_visibleOn_12 ?_
  refine lv_bipush (v := 10) hx hb dX10_visibleOn_13 (by decide) ?_
  refine lv_idiv hx hb dX10_visibleOn_15 (by decide) ?_
  refine endI (r := visI k (r (9 + k % C))) (by first | rfl | (simp [*]; done)) ?_
  exact hret ls _ dX10_visibleOn_16

set_option maxHeartbeats 4000000 in
set_option maxRecDepth 100000 in
theorem c_X10_limitOf (l : Launch) (D : va_G) (T : Nat → ClassId) (b : Nat) (r : Nat → Int32) (q : Nat) (hq : q < 3) : Met l yX10_limitOf wsX10_limitOf ({ frames := 0, cells := 0, slots := 0, locals := 0 } : Room) (va_Pc [.ref (b), .int (nI q)] (PR D T ([(b, .inl (T 0, 202, .inl r))]))) (QcRead (r (1 + q))) 0 0 (fun _ => False) := by
  refine metR (cc := cX10_limitOf) (maxL := 2) (ty := .int) (by decide) rfl (by rfl) (Nat.le_of_ble_eq_true rfl) ?_
  intro p e s m args below meth c Q ls hx hb hml hown hts hP hK hl hret
  have hown : s.vm.findClass RX10 = some m.cls := hown
  have hl : lv_has ls 2 [(0, .ref (b)), (1, .int (nI q))] := hl
  refine lv_aload_n hx hb dX10_limitOf_0 rfl (lv_at hl 0 rfl) ?_
  refine lv_iconst (v := 1) hx hb dX10_limitOf_1 (by decide) ?_
  refine lv_iload_n hx hb dX10_limitOf_2 rfl (lv_at hl 1 rfl) ?_
  refine lv_iadd hx hb dX10_limitOf_3 ?_
  refine endI (r := nI (1 + q)) (nI_add _ _) ?_
  refine aldI hx hb hK hP 0 0 rfl rfl (1 + q) rfl (by omega) (by decide) dX10_limitOf_4 ?_
  refine endI (r := r (1 + q)) (by first | rfl | (simp [*]; done)) ?_
  exact hret ls _ dX10_limitOf_5

set_option maxHeartbeats 4000000 in
set_option maxRecDepth 100000 in
theorem c_X10_isJust (l : Launch) (D : va_G) (T : Nat → ClassId) (b : Nat) (r : Nat → Int32) (q : Nat) (k : Nat) (C : Nat) (hC : r 4 = nI C) (hC1 : 0 < C) (hC2 : C ≤ 10) (hk : k < 2 ^ 20) (hq : q < 4) : Met l yX10_isJust wsX10_isJust ({ frames := 3, cells := 0, slots := 0, locals := 62 } : Room) (va_Pc [.ref (b), .int (nI q), .int (nI k)] (PR D T ([(b, .inl (T 0, 202, .inl r))]))) (QcRead (bI (justB q (r 1) (r 2) (r 3) k (r (9 + k % C))))) 0 0 (fun _ => False) := by
  refine metR (cc := cX10_isJust) (maxL := 3) (ty := .boolean) (by decide) rfl (by exact bI_nb _) (Nat.le_of_ble_eq_true rfl) ?_
  intro p e s m args below meth c Q ls hx hb hml hown hts hP hK hl hret
  have hown : s.vm.findClass RX10 = some m.cls := hown
  have hl : lv_has ls 3 [(0, .ref (b)), (1, .int (nI q)), (2, .int (nI k))] := hl
  refine lv_iload_n hx hb dX10_isJust_0 rfl (lv_at hl 1 rfl) ?_
  obtain rfl | rfl | rfl | rfl : q = 0 ∨ q = 1 ∨ q = 2 ∨ q = 3 := by omega
  ·
    refine lv_tableIn (off := 27) (tgt := 28) hx hb dX10_isJust_1 (by decide) (by decide) (by decide) (by decide) ?_
    refine lv_aload_n hx hb dX10_isJust_28 rfl (lv_at hl 0 rfl) ?_
    refine lv_iload_n hx hb dX10_isJust_29 rfl (lv_at hl 2 rfl) ?_
    refine rdS (As := [.ref (b), .int (nI k)]) (rest := []) ⟨hx, hb, hml, hown, hts⟩ (c_X10_visibleOn l D T b r k C (by first | omega | assumption | decide) (by first | omega | assumption | decide) (by first | omega | assumption | decide) (by first | omega | assumption | decide)) (va_cwS 2 hts gX10_isJust_X10_visibleOn rfl rfl rfl (by decide +kernel) ⟨Nat.le_of_ble_eq_true rfl, Nat.le_of_ble_eq_true rfl⟩) hK hP rfl hl.1 rfl (Nat.le_of_ble_eq_true rfl) ⟨Nat.zero_le _, Nat.zero_le _⟩ dX10_isJust_30 ?_
    refine lv_aload_n hx hb dX10_isJust_33 rfl (lv_at hl 0 rfl) ?_
    refine lv_iconst (v := 0) hx hb dX10_isJust_34 (by decide) ?_
    refine rdS (As := [.ref (b), .int (0)]) (rest := [.int (visI k (r (9 + k % C)))]) ⟨hx, hb, hml, hown, hts⟩ (c_X10_limitOf l D T b r 0 (by first | omega | assumption | decide)) (va_cwS 2 hts gX10_isJust_X10_limitOf rfl rfl rfl (by decide +kernel) ⟨Nat.le_of_ble_eq_true rfl, Nat.le_of_ble_eq_true rfl⟩) hK hP rfl hl.1 rfl (Nat.le_of_ble_eq_true rfl) ⟨Nat.zero_le _, Nat.zero_le _⟩ dX10_isJust_35 ?_
    refine lv_icmp_lt (tgt := 45) hx hb dX10_isJust_38 (by decide) (fun c38 => ?_) (fun c38 => ?_)
    ·
      refine lv_iconst (v := 0) hx hb dX10_isJust_45 (by decide) ?_
      refine endI (r := bI (justB 0 (r 1) (r 2) (r 3) k (r (9 + k % C)))) (by (first | have c38x := Int32.not_lt.mp c38 | have c38x := Int32.not_le.mp c38 | have c38x := Int32.not_lt.mpr c38 | have c38x := Int32.not_le.mpr c38 | have c38x := c38); simp [bI, justB, c38, c38x]) ?_
      exact hret ls _ dX10_isJust_46
    ·
      refine lv_iconst (v := 1) hx hb dX10_isJust_41 (by decide) ?_
      refine lv_goto (tgt := 46) hx hb dX10_isJust_42 (by decide) ?_
      refine endI (r := bI (justB 0 (r 1) (r 2) (r 3) k (r (9 + k % C)))) (by (first | have c38x := Int32.not_lt.mp c38 | have c38x := Int32.not_le.mp c38 | have c38x := Int32.not_lt.mpr c38 | have c38x := Int32.not_le.mpr c38 | have c38x := c38); simp [bI, justB, c38, c38x]) ?_
      exact hret ls _ dX10_isJust_46
  ·
    refine lv_tableIn (off := 46) (tgt := 47) hx hb dX10_isJust_1 (by decide) (by decide) (by decide) (by decide) ?_
    refine lv_aload_n hx hb dX10_isJust_47 rfl (lv_at hl 0 rfl) ?_
    refine lv_iload_n hx hb dX10_isJust_48 rfl (lv_at hl 2 rfl) ?_
    refine rdS (As := [.ref (b), .int (nI k)]) (rest := []) ⟨hx, hb, hml, hown, hts⟩ (c_X10_visibleOn l D T b r k C (by first | omega | assumption | decide) (by first | omega | assumption | decide) (by first | omega | assumption | decide) (by first | omega | assumption | decide)) (va_cwS 2 hts gX10_isJust_X10_visibleOn rfl rfl rfl (by decide +kernel) ⟨Nat.le_of_ble_eq_true rfl, Nat.le_of_ble_eq_true rfl⟩) hK hP rfl hl.1 rfl (Nat.le_of_ble_eq_true rfl) ⟨Nat.zero_le _, Nat.zero_le _⟩ dX10_isJust_49 ?_
    refine lv_aload_n hx hb dX10_isJust_52 rfl (lv_at hl 0 rfl) ?_
    refine lv_iconst (v := 1) hx hb dX10_isJust_53 (by decide) ?_
    refine rdS (As := [.ref (b), .int (1)]) (rest := [.int (visI k (r (9 + k % C)))]) ⟨hx, hb, hml, hown, hts⟩ (c_X10_limitOf l D T b r 1 (by first | omega | assumption | decide)) (va_cwS 2 hts gX10_isJust_X10_limitOf rfl rfl rfl (by decide +kernel) ⟨Nat.le_of_ble_eq_true rfl, Nat.le_of_ble_eq_true rfl⟩) hK hP rfl hl.1 rfl (Nat.le_of_ble_eq_true rfl) ⟨Nat.zero_le _, Nat.zero_le _⟩ dX10_isJust_54 ?_
    refine lv_icmp_gt (tgt := 64) hx hb dX10_isJust_57 (by decide) (fun c57 => ?_) (fun c57 => ?_)
    ·
      refine lv_iconst (v := 0) hx hb dX10_isJust_64 (by decide) ?_
      refine endI (r := bI (justB 1 (r 1) (r 2) (r 3) k (r (9 + k % C)))) (by (first | have c57x := Int32.not_lt.mp c57 | have c57x := Int32.not_le.mp c57 | have c57x := Int32.not_lt.mpr c57 | have c57x := Int32.not_le.mpr c57 | have c57x := c57); simp [bI, justB, c57, c57x]) ?_
      exact hret ls _ dX10_isJust_65
    ·
      refine lv_iconst (v := 1) hx hb dX10_isJust_60 (by decide) ?_
      refine lv_goto (tgt := 65) hx hb dX10_isJust_61 (by decide) ?_
      refine endI (r := bI (justB 1 (r 1) (r 2) (r 3) k (r (9 + k % C)))) (by (first | have c57x := Int32.not_lt.mp c57 | have c57x := Int32.not_le.mp c57 | have c57x := Int32.not_lt.mpr c57 | have c57x := Int32.not_le.mpr c57 | have c57x := c57); simp [bI, justB, c57, c57x]) ?_
      exact hret ls _ dX10_isJust_65
  ·
    refine lv_tableIn (off := 65) (tgt := 66) hx hb dX10_isJust_1 (by decide) (by decide) (by decide) (by decide) ?_
    refine lv_iload_n hx hb dX10_isJust_66 rfl (lv_at hl 2 rfl) ?_
    refine rdT (As := [.int (nI k)]) (rest := []) ⟨hx, hb, hml, hown, hts⟩ (c_X10_tideOn l D T k (by first | omega | assumption | decide)) (va_cwS 1 hts gX10_isJust_X10_tideOn rfl rfl rfl (by decide +kernel) ⟨Nat.le_of_ble_eq_true rfl, Nat.le_of_ble_eq_true rfl⟩) rfl hl.1 rfl (Nat.le_of_ble_eq_true rfl) ⟨Nat.zero_le _, Nat.zero_le _⟩ dX10_isJust_67 ?_
    refine lv_aload_n hx hb dX10_isJust_70 rfl (lv_at hl 0 rfl) ?_
    refine lv_iconst (v := 2) hx hb dX10_isJust_71 (by decide) ?_
    refine rdS (As := [.ref (b), .int (2)]) (rest := [.int (nI (tideN k))]) ⟨hx, hb, hml, hown, hts⟩ (c_X10_limitOf l D T b r 2 (by first | omega | assumption | decide)) (va_cwS 2 hts gX10_isJust_X10_limitOf rfl rfl rfl (by decide +kernel) ⟨Nat.le_of_ble_eq_true rfl, Nat.le_of_ble_eq_true rfl⟩) hK hP rfl hl.1 rfl (Nat.le_of_ble_eq_true rfl) ⟨Nat.zero_le _, Nat.zero_le _⟩ dX10_isJust_72 ?_
    refine lv_icmp_lt (tgt := 82) hx hb dX10_isJust_75 (by decide) (fun c75 => ?_) (fun c75 => ?_)
    ·
      refine lv_iconst (v := 0) hx hb dX10_isJust_82 (by decide) ?_
      refine endI (r := bI (justB 2 (r 1) (r 2) (r 3) k (r (9 + k % C)))) (by (first | have c75x := Int32.not_lt.mp c75 | have c75x := Int32.not_le.mp c75 | have c75x := Int32.not_lt.mpr c75 | have c75x := Int32.not_le.mpr c75 | have c75x := c75); simp [bI, justB, c75, c75x]) ?_
      exact hret ls _ dX10_isJust_83
    ·
      refine lv_iconst (v := 1) hx hb dX10_isJust_78 (by decide) ?_
      refine lv_goto (tgt := 83) hx hb dX10_isJust_79 (by decide) ?_
      refine endI (r := bI (justB 2 (r 1) (r 2) (r 3) k (r (9 + k % C)))) (by (first | have c75x := Int32.not_lt.mp c75 | have c75x := Int32.not_le.mp c75 | have c75x := Int32.not_lt.mpr c75 | have c75x := Int32.not_le.mpr c75 | have c75x := c75); simp [bI, justB, c75, c75x]) ?_
      exact hret ls _ dX10_isJust_83
  ·
    refine lv_tableOut (tgt := 84) hx hb dX10_isJust_1 (by decide) (by decide) ?_
    refine lv_iload_n hx hb dX10_isJust_84 rfl (lv_at hl 2 rfl) ?_
    refine rdT (As := [.int (nI k)]) (rest := []) ⟨hx, hb, hml, hown, hts⟩ (c_X10_lightOn l D T k (by first | omega | assumption | decide)) (va_cwS 1 hts gX10_isJust_X10_lightOn rfl rfl rfl (by decide +kernel) ⟨Nat.le_of_ble_eq_true rfl, Nat.le_of_ble_eq_true rfl⟩) rfl hl.1 rfl (Nat.le_of_ble_eq_true rfl) ⟨Nat.zero_le _, Nat.zero_le _⟩ dX10_isJust_85 ?_
    refine lv_iconst (v := 4) hx hb dX10_isJust_88 (by decide) ?_
    refine lv_icmp_lt (tgt := 105) hx hb dX10_isJust_89 (by decide) (fun c89 => ?_) (fun c89 => ?_)
    ·
      refine lv_iconst (v := 0) hx hb dX10_isJust_105 (by decide) ?_
      refine endI (r := bI (justB 3 (r 1) (r 2) (r 3) k (r (9 + k % C)))) (by (first | have c89x := Int32.not_lt.mp c89 | have c89x := Int32.not_le.mp c89 | have c89x := Int32.not_lt.mpr c89 | have c89x := Int32.not_le.mpr c89 | have c89x := c89); simp [bI, justB, c89, c89x]) ?_
      exact hret ls _ dX10_isJust_106
    ·
      refine lv_aload_n hx hb dX10_isJust_92 rfl (lv_at hl 0 rfl) ?_
      refine lv_iload_n hx hb dX10_isJust_93 rfl (lv_at hl 2 rfl) ?_
      refine rdS (As := [.ref (b), .int (nI k)]) (rest := []) ⟨hx, hb, hml, hown, hts⟩ (c_X10_cloudOn l D T b r k C (by first | omega | assumption | decide) (by first | omega | assumption | decide) (by first | omega | assumption | decide) (by first | omega | assumption | decide)) (va_cwS 2 hts gX10_isJust_X10_cloudOn rfl rfl rfl (by decide +kernel) ⟨Nat.le_of_ble_eq_true rfl, Nat.le_of_ble_eq_true rfl⟩) hK hP rfl hl.1 rfl (Nat.le_of_ble_eq_true rfl) ⟨Nat.zero_le _, Nat.zero_le _⟩ dX10_isJust_94 ?_
      refine lv_iconst (v := 2) hx hb dX10_isJust_97 (by decide) ?_
      refine lv_icmp_gt (tgt := 105) hx hb dX10_isJust_98 (by decide) (fun c98 => ?_) (fun c98 => ?_)
      ·
        refine lv_iconst (v := 0) hx hb dX10_isJust_105 (by decide) ?_
        refine endI (r := bI (justB 3 (r 1) (r 2) (r 3) k (r (9 + k % C)))) (by (first | have c89x := Int32.not_lt.mp c89 | have c89x := Int32.not_le.mp c89 | have c89x := Int32.not_lt.mpr c89 | have c89x := Int32.not_le.mpr c89 | have c89x := c89); (first | have c98x := Int32.not_lt.mp c98 | have c98x := Int32.not_le.mp c98 | have c98x := Int32.not_lt.mpr c98 | have c98x := Int32.not_le.mpr c98 | have c98x := c98); simp [bI, justB, c89, c98, c89x, c98x]) ?_
        exact hret ls _ dX10_isJust_106
      ·
        refine lv_iconst (v := 1) hx hb dX10_isJust_101 (by decide) ?_
        refine lv_goto (tgt := 106) hx hb dX10_isJust_102 (by decide) ?_
        refine endI (r := bI (justB 3 (r 1) (r 2) (r 3) k (r (9 + k % C)))) (by (first | have c89x := Int32.not_lt.mp c89 | have c89x := Int32.not_le.mp c89 | have c89x := Int32.not_lt.mpr c89 | have c89x := Int32.not_le.mpr c89 | have c89x := c89); (first | have c98x := Int32.not_lt.mp c98 | have c98x := Int32.not_le.mp c98 | have c98x := Int32.not_lt.mpr c98 | have c98x := Int32.not_le.mpr c98 | have c98x := c98); simp [bI, justB, c89, c98, c89x, c98x]) ?_
        exact hret ls _ dX10_isJust_106

set_option maxHeartbeats 4000000 in
set_option maxRecDepth 100000 in
theorem c_X10_justNights (l : Launch) (D : va_G) (T : Nat → ClassId) (b : Nat) (r : Nat → Int32) (q : Nat) (C : Nat) (nt : Nat) (hC : r 4 = nI C) (hC1 : 0 < C) (hC2 : C ≤ 10) (hn : r 0 = nI nt) (hnt : nt < 2 ^ 19) (hq : q < 4) : Met l yX10_justNights wsX10_justNights ({ frames := 4, cells := 0, slots := 0, locals := 84 } : Room) (va_Pc [.ref (b), .int (nI q)] (PR D T ([(b, .inl (T 0, 202, .inl r))]))) (QcRead (cntI (fun j => justB q (r 1) (r 2) (r 3) j (r (9 + j % C))) (nt + 28 - nt) nt 0)) 0 0 (fun _ => False) := by
  refine metR (cc := cX10_justNights) (maxL := 4) (ty := .int) (by decide) rfl (by rfl) (Nat.le_of_ble_eq_true rfl) ?_
  intro p e s m args below meth c Q ls hx hb hml hown hts hP hK hl hret
  have hown : s.vm.findClass RX10 = some m.cls := hown
  have hl : lv_has ls 4 [(0, .ref (b)), (1, .int (nI q))] := hl
  refine lv_iconst (v := 0) hx hb dX10_justNights_0 (by decide) ?_
  refine lv_istore_n (lv' := [(2, .int (0)), (0, .ref (b)), (1, .int (nI q))]) hx hb dX10_justNights_1 rfl hl (by decide) rfl (fun ls hl => ?_)
  refine lv_aload_n hx hb dX10_justNights_2 rfl (lv_at hl 1 rfl) ?_
  refine lv_iconst (v := 0) hx hb dX10_justNights_3 (by decide) ?_
  refine aldI hx hb hK hP 0 0 rfl rfl (0) rfl (by omega) (by decide) dX10_justNights_4 ?_
  refine endI (r := nI nt) (hn) ?_
  refine lv_istore_n (lv' := [(3, .int (nI nt)), (2, .int (0)), (0, .ref (b)), (1, .int (nI q))]) hx hb dX10_justNights_5 rfl hl (by decide) rfl (fun ls hl => ?_)
  have L6 : ∀ (n9 : Nat) (k9 : Nat) (x : Int32), (nt + 28 - k9) < n9 → (k9 ≤ nt + 28) → (cntI (fun j => justB q (r 1) (r 2) (r 3) j (r (9 + j % C))) (nt + 28 - k9) k9 x = cntI (fun j => justB q (r 1) (r 2) (r 3) j (r (9 + j % C))) (nt + 28 - nt) nt 0) → (nt ≤ k9) → ∀ (ls : Array Slot), lv_has ls 4 [(3, .int (nI k9)), (2, .int (x)), (0, .ref (b)), (1, .int (nI q))] → W p l e ({ frames := 4, cells := 0, slots := 0, locals := 84 } : Room) s m args below meth c s.heap [] 0 0 Q (F0 m 6 ls []) := by
    intro n9
    induction n9 with
    | zero => intro k9 x hm9; exact absurd hm9 (Nat.not_lt_zero _)
    | succ n9 ih =>
      intro k9 x hm9 hk9 hR hk0 ls hl
      refine lv_iload_n hx hb dX10_justNights_6 rfl (lv_at hl 0 rfl) ?_
      refine lv_aload_n hx hb dX10_justNights_7 rfl (lv_at hl 2 rfl) ?_
      refine lv_iconst (v := 0) hx hb dX10_justNights_8 (by decide) ?_
      refine aldI hx hb hK hP 0 0 rfl rfl (0) rfl (by omega) (by decide) dX10_justNights_9 ?_
      refine endI (r := nI nt) (hn) ?_
      refine lv_bipush (v := 28) hx hb dX10_justNights_10 (by decide) ?_
      refine lv_iadd hx hb dX10_justNights_12 ?_
      refine endI (r := nI (nt + 28)) (nI_add _ _) ?_
      refine lv_icmp_ge (tgt := 34) hx hb dX10_justNights_13 (by decide) (fun c13 => ?_) (fun c13 => ?_)
      ·
        have c13 : (nt + 28) ≤ k9 := (nI_leI (a := (nt + 28)) (b := k9) (by omega) (by omega)).mp c13
        refine lv_iload_n hx hb dX10_justNights_34 rfl (lv_at hl 1 rfl) ?_
        refine endI (r := cntI (fun j => justB q (r 1) (r 2) (r 3) j (r (9 + j % C))) (nt + 28 - nt) nt 0) (by rw [cntI_done (by omega)] at hR; exact hR) ?_
        exact hret ls _ dX10_justNights_35
      ·
        have c13 : ¬ (nt + 28) ≤ k9 := fun h9 => c13 ((nI_leI (a := (nt + 28)) (b := k9) (by omega) (by omega)).mpr h9)
        refine lv_aload_n hx hb dX10_justNights_16 rfl (lv_at hl 2 rfl) ?_
        refine lv_iload_n hx hb dX10_justNights_17 rfl (lv_at hl 3 rfl) ?_
        refine lv_iload_n hx hb dX10_justNights_18 rfl (lv_at hl 0 rfl) ?_
        refine rdS (As := [.ref (b), .int (nI q), .int (nI k9)]) (rest := []) ⟨hx, hb, hml, hown, hts⟩ (c_X10_isJust l D T b r q k9 C (by first | omega | assumption | decide) (by first | omega | assumption | decide) (by first | omega | assumption | decide) (by first | omega | assumption | decide) (by first | omega | assumption | decide)) (va_cwS 3 hts gX10_justNights_X10_isJust rfl rfl rfl (by decide +kernel) ⟨Nat.le_of_ble_eq_true rfl, Nat.le_of_ble_eq_true rfl⟩) hK hP rfl hl.1 rfl (Nat.le_of_ble_eq_true rfl) ⟨Nat.zero_le _, Nat.zero_le _⟩ dX10_justNights_19 ?_
        refine lv_if_eq (tgt := 28) hx hb dX10_justNights_22 (by decide) (fun c22 => ?_) (fun c22 => ?_)
        ·
          have c22 := bI_0.mp c22
          refine lv_iinc (v := nI (k9 + 1)) (lv' := [(3, .int (nI (k9 + 1))), (2, .int (x)), (0, .ref (b)), (1, .int (nI q))]) hx hb dX10_justNights_28 hl (k := 0) rfl (nI_1 _) (by decide) rfl (fun ls hl => ?_)
          refine lv_goto (tgt := 6) hx hb dX10_justNights_31 (by decide) ?_
          exact ih (k9 + 1) x (by omega) (by omega) (by rw [cntI_step (by omega)] at hR; simpa [c13, c22] using hR) (by first | assumption | omega) _ (lv_sub hl [0, 1, 2, 3] rfl)
        ·
          have c22 := bI_n0.mp c22
          refine lv_iinc (v := x + 1) (lv' := [(2, .int (x + 1)), (3, .int (nI k9)), (0, .ref (b)), (1, .int (nI q))]) hx hb dX10_justNights_25 hl (k := 1) rfl rfl (by decide) rfl (fun ls hl => ?_)
          refine lv_iinc (v := nI (k9 + 1)) (lv' := [(3, .int (nI (k9 + 1))), (2, .int (x + 1)), (0, .ref (b)), (1, .int (nI q))]) hx hb dX10_justNights_28 hl (k := 1) rfl (nI_1 _) (by decide) rfl (fun ls hl => ?_)
          refine lv_goto (tgt := 6) hx hb dX10_justNights_31 (by decide) ?_
          exact ih (k9 + 1) (x + 1) (by omega) (by omega) (by rw [cntI_step (by omega)] at hR; simpa [c13, c22] using hR) (by first | assumption | omega) _ (lv_sub hl [0, 1, 2, 3] rfl)
  exact L6 _ nt 0 (Nat.lt_succ_self _) (by omega) (by first | rfl | (simp; done)) (by first | assumption | omega | (intros; contradiction)) _ (lv_sub hl [0, 1, 2, 3] rfl)

set_option maxHeartbeats 4000000 in
set_option maxRecDepth 100000 in
theorem c_X10_costOn (l : Launch) (D : va_G) (T : Nat → ClassId) (b : Nat) (r : Nat → Int32) (k : Nat) (C : Nat) (hC : r 4 = nI C) (hC1 : 0 < C) (hC2 : C ≤ 10) (hk : k < 2 ^ 20) : Met l yX10_costOn wsX10_costOn ({ frames := 3, cells := 0, slots := 0, locals := 62 } : Room) (va_Pc [.ref (b), .int (nI k)] (PR D T ([(b, .inl (T 0, 202, .inl r))]))) (QcRead (6 - visI k (r (9 + k % C)) / 3)) 0 0 (fun _ => False) := by
  refine metR (cc := cX10_costOn) (maxL := 2) (ty := .int) (by decide) rfl (by rfl) (Nat.le_of_ble_eq_true rfl) ?_
  intro p e s m args below meth c Q ls hx hb hml hown hts hP hK hl hret
  have hown : s.vm.findClass RX10 = some m.cls := hown
  have hl : lv_has ls 2 [(0, .ref (b)), (1, .int (nI k))] := hl
  refine lv_bipush (v := 6) hx hb dX10_costOn_0 (by decide) ?_
  refine lv_aload_n hx hb dX10_costOn_2 rfl (lv_at hl 0 rfl) ?_
  refine lv_iload_n hx hb dX10_costOn_3 rfl (lv_at hl 1 rfl) ?_
  refine rdS (As := [.ref (b), .int (nI k)]) (rest := [.int (6)]) ⟨hx, hb, hml, hown, hts⟩ (c_X10_visibleOn l D T b r k C (by first | omega | assumption | decide) (by first | omega | assumption | decide) (by first | omega | assumption | decide) (by first | omega | assumption | decide)) (va_cwS 2 hts gX10_costOn_X10_visibleOn rfl rfl rfl (by decide +kernel) ⟨Nat.le_of_ble_eq_true rfl, Nat.le_of_ble_eq_true rfl⟩) hK hP rfl hl.1 rfl (Nat.le_of_ble_eq_true rfl) ⟨Nat.zero_le _, Nat.zero_le _⟩ dX10_costOn_4 ?_
  refine lv_iconst (v := 3) hx hb dX10_costOn_7 (by decide) ?_
  refine lv_idiv hx hb dX10_costOn_8 (by decide) ?_
  refine lv_isub hx hb dX10_costOn_9 ?_
  refine endI (r := 6 - visI k (r (9 + k % C)) / 3) (by first | rfl | (simp [*]; done)) ?_
  exact hret ls _ dX10_costOn_10

set_option maxHeartbeats 4000000 in
set_option maxRecDepth 100000 in
theorem c_X10_addsCloud (l : Launch) (D : va_G) (T : Nat → ClassId) (b : Nat) (r : Nat → Int32) (z : Int32) (C : Nat) (hC : r 4 = nI C) (hC2 : C < 10) (sz : Nat) : Met l yX10_addsCloud wsX10_addsCloud ({ frames := 0, cells := 0, slots := 0, locals := 0 } : Room) (va_Pc [.ref (b), .int (z)] (PS D T ([(b, .inl (T 0, 202, .inl r))]) sz)) (va_Qv (fun (_ : Unit) => True) (fun _ t => QS D T (va_A ([(b, .inl (T 0, 202, .inl r))]) sz) ([(b, .inl (T 0, 202, .inl (rAddsCloud r C z)))]) t) (va_A ([(b, .inl (T 0, 202, .inl r))]) sz)) 0 0 (va_A ([(b, .inl (T 0, 202, .inl r))]) sz) := by
  refine metSv (cc := cX10_addsCloud) (maxL := 2) (by decide) rfl (Nat.le_of_ble_eq_true rfl) ?_
  intro p e s m args below meth c Q ls A hx hb hml hown hts hP hK hD hA hS hl hret
  have hown : s.vm.findClass RX10 = some m.cls := hown
  have hl : lv_has ls 2 [(0, .ref (b)), (1, .int (z))] := hl
  refine lv_aload_n hx hb dX10_addsCloud_0 rfl (lv_at hl 0 rfl) ?_
  refine lv_bipush (v := 9) hx hb dX10_addsCloud_1 (by decide) ?_
  refine lv_aload_n hx hb dX10_addsCloud_3 rfl (lv_at hl 0 rfl) ?_
  refine lv_iconst (v := 4) hx hb dX10_addsCloud_4 (by decide) ?_
  refine aldI hx hb hK hP 0 0 rfl rfl (4) rfl (by omega) (by decide) dX10_addsCloud_5 ?_
  refine endI (r := nI C) (hC) ?_
  refine lv_iadd hx hb dX10_addsCloud_6 ?_
  refine endI (r := nI (9 + C)) (nI_add _ _) ?_
  refine lv_iload_n hx hb dX10_addsCloud_7 rfl (lv_at hl 1 rfl) ?_
  refine astI hx hb hK hP hD hS 0 0 rfl rfl (9 + C) rfl (by omega) (by decide) dX10_addsCloud_8 (fun H locs hP hD hS => ?_)
  have hP : va_P D vwCl ([(b, .inl (T 0, 202, .inl (va_up r (9 + C) z)))]) H := hP
  have hD : va_D A ([(b, .inl (T 0, 202, .inl (va_up r (9 + C) z)))]) := hD
  refine lv_aload_n hx hb dX10_addsCloud_9 rfl (lv_at hl 0 rfl) ?_
  refine lv_iconst (v := 4) hx hb dX10_addsCloud_10 (by decide) ?_
  refine lv_dup2_11 hx hb dX10_addsCloud_11 rfl rfl ?_
  refine aldI hx hb hK hP 0 0 rfl rfl (4) rfl (by omega) (by decide) dX10_addsCloud_12 ?_
  refine lv_iconst (v := 1) hx hb dX10_addsCloud_13 (by decide) ?_
  refine lv_iadd hx hb dX10_addsCloud_14 ?_
  refine astI hx hb hK hP hD hS 0 0 rfl rfl (4) rfl (by omega) (by decide) dX10_addsCloud_15 (fun H locs hP hD hS => ?_)
  have hP : va_P D vwCl ([(b, .inl (T 0, 202, .inl (va_up (va_up r (9 + C) z) 4 (((va_up r (9 + C) z) 4) + 1))))]) H := hP
  have hD : va_D A ([(b, .inl (T 0, 202, .inl (va_up (va_up r (9 + C) z) 4 (((va_up r (9 + C) z) 4) + 1))))]) := hD
  have hE : va_up (va_up r (9 + C) z) 4 (((va_up r (9 + C) z) 4) + 1) = rAddsCloud r C z := by rfl
  exact hret _ _ _ _ dX10_addsCloud_16 (by rw [← hE]; exact hP) (by rw [← hE]; exact hD) hS

set_option maxHeartbeats 4000000 in
set_option maxRecDepth 100000 in
theorem c_X10_addsClerk (l : Launch) (D : va_G) (T : Nat → ClassId) (b : Nat) (r : Nat → Int32) (z : Int32) (z1 : Int32) (K : Nat) (hKn : r 5 = nI K) (hK2 : K < 5) (sz : Nat) : Met l yX10_addsClerk wsX10_addsClerk ({ frames := 1, cells := 0, slots := 0, locals := 21 } : Room) (va_Pc [.ref (b), .int (z), .int (z1)] (PS D T ([(b, .inl (T 0, 202, .inl r))]) sz)) (va_Qi (fun r9 (_ : Unit) => r9 = (nI K)) (fun _ t => QS D T (va_A ([(b, .inl (T 0, 202, .inl r))]) sz) ([(b, .inl (T 0, 202, .inl (rAddsClerk r K z z1)))]) t) (va_A ([(b, .inl (T 0, 202, .inl r))]) sz)) 0 0 (va_A ([(b, .inl (T 0, 202, .inl r))]) sz) := by
  refine metSi (cc := cX10_addsClerk) (maxL := 4) (ty := .int) (by decide) rfl (by rfl) (Nat.le_of_ble_eq_true rfl) ?_
  intro p e s m args below meth c Q ls A hx hb hml hown hts hP hK hD hA hS hl hret
  have hown : s.vm.findClass RX10 = some m.cls := hown
  have hl : lv_has ls 4 [(0, .ref (b)), (1, .int (z)), (2, .int (z1))] := hl
  refine lv_aload_n hx hb dX10_addsClerk_0 rfl (lv_at hl 0 rfl) ?_
  refine lv_iconst (v := 5) hx hb dX10_addsClerk_1 (by decide) ?_
  refine aldI hx hb hK hP 0 0 rfl rfl (5) rfl (by omega) (by decide) dX10_addsClerk_2 ?_
  refine endI (r := nI K) (hKn) ?_
  refine lv_istore_n (lv' := [(3, .int (nI K)), (0, .ref (b)), (1, .int (z)), (2, .int (z1))]) hx hb dX10_addsClerk_3 rfl hl (by decide) rfl (fun ls hl => ?_)
  refine lv_aload_n hx hb dX10_addsClerk_4 rfl (lv_at hl 1 rfl) ?_
  refine lv_iload_n hx hb dX10_addsClerk_5 rfl (lv_at hl 0 rfl) ?_
  refine lv_iconst (v := 0) hx hb dX10_addsClerk_6 (by decide) ?_
  refine rdT (As := [.int (nI K), .int (0)]) (rest := [.ref (b)]) ⟨hx, hb, hml, hown, hts⟩ (c_X10_clerkAt l D T K 0 ) (va_cwS 2 hts gX10_addsClerk_X10_clerkAt rfl rfl rfl (by decide +kernel) ⟨Nat.le_of_ble_eq_true rfl, Nat.le_of_ble_eq_true rfl⟩) rfl hl.1 rfl (Nat.le_of_ble_eq_true rfl) ⟨Nat.zero_le _, Nat.zero_le _⟩ dX10_addsClerk_7 ?_
  refine lv_iload_n hx hb dX10_addsClerk_10 rfl (lv_at hl 2 rfl) ?_
  refine astI hx hb hK hP hD hS 0 0 rfl rfl (19 + 3 * K) rfl (by omega) (by decide) dX10_addsClerk_11 (fun H locs hP hD hS => ?_)
  have hP : va_P D vwCl ([(b, .inl (T 0, 202, .inl (va_up r (19 + 3 * K) z)))]) H := hP
  have hD : va_D A ([(b, .inl (T 0, 202, .inl (va_up r (19 + 3 * K) z)))]) := hD
  refine lv_aload_n hx hb dX10_addsClerk_12 rfl (lv_at hl 1 rfl) ?_
  refine lv_iload_n hx hb dX10_addsClerk_13 rfl (lv_at hl 0 rfl) ?_
  refine lv_iconst (v := 1) hx hb dX10_addsClerk_14 (by decide) ?_
  refine rdT (As := [.int (nI K), .int (1)]) (rest := [.ref (b)]) ⟨hx, hb, hml, hown, hts⟩ (c_X10_clerkAt l D T K 1 ) (va_cwS 2 hts gX10_addsClerk_X10_clerkAt rfl rfl rfl (by decide +kernel) ⟨Nat.le_of_ble_eq_true rfl, Nat.le_of_ble_eq_true rfl⟩) rfl hl.1 rfl (Nat.le_of_ble_eq_true rfl) ⟨Nat.zero_le _, Nat.zero_le _⟩ dX10_addsClerk_15 ?_
  refine lv_iload_n hx hb dX10_addsClerk_18 rfl (lv_at hl 3 rfl) ?_
  refine astI hx hb hK hP hD hS 0 0 rfl rfl (19 + 3 * K + 1) rfl (by omega) (by decide) dX10_addsClerk_19 (fun H locs hP hD hS => ?_)
  have hP : va_P D vwCl ([(b, .inl (T 0, 202, .inl (va_up (va_up r (19 + 3 * K) z) (19 + 3 * K + 1) z1)))]) H := hP
  have hD : va_D A ([(b, .inl (T 0, 202, .inl (va_up (va_up r (19 + 3 * K) z) (19 + 3 * K + 1) z1)))]) := hD
  refine lv_aload_n hx hb dX10_addsClerk_20 rfl (lv_at hl 1 rfl) ?_
  refine lv_iload_n hx hb dX10_addsClerk_21 rfl (lv_at hl 0 rfl) ?_
  refine lv_iconst (v := 2) hx hb dX10_addsClerk_22 (by decide) ?_
  refine rdT (As := [.int (nI K), .int (2)]) (rest := [.ref (b)]) ⟨hx, hb, hml, hown, hts⟩ (c_X10_clerkAt l D T K 2 ) (va_cwS 2 hts gX10_addsClerk_X10_clerkAt rfl rfl rfl (by decide +kernel) ⟨Nat.le_of_ble_eq_true rfl, Nat.le_of_ble_eq_true rfl⟩) rfl hl.1 rfl (Nat.le_of_ble_eq_true rfl) ⟨Nat.zero_le _, Nat.zero_le _⟩ dX10_addsClerk_23 ?_
  refine lv_iconst (v := 0) hx hb dX10_addsClerk_26 (by decide) ?_
  refine astI hx hb hK hP hD hS 0 0 rfl rfl (19 + 3 * K + 2) rfl (by omega) (by decide) dX10_addsClerk_27 (fun H locs hP hD hS => ?_)
  have hP : va_P D vwCl ([(b, .inl (T 0, 202, .inl (va_up (va_up (va_up r (19 + 3 * K) z) (19 + 3 * K + 1) z1) (19 + 3 * K + 2) 0)))]) H := hP
  have hD : va_D A ([(b, .inl (T 0, 202, .inl (va_up (va_up (va_up r (19 + 3 * K) z) (19 + 3 * K + 1) z1) (19 + 3 * K + 2) 0)))]) := hD
  refine lv_aload_n hx hb dX10_addsClerk_28 rfl (lv_at hl 1 rfl) ?_
  refine lv_iconst (v := 5) hx hb dX10_addsClerk_29 (by decide) ?_
  refine lv_dup2_11 hx hb dX10_addsClerk_30 rfl rfl ?_
  refine aldI hx hb hK hP 0 0 rfl rfl (5) rfl (by omega) (by decide) dX10_addsClerk_31 ?_
  refine lv_iconst (v := 1) hx hb dX10_addsClerk_32 (by decide) ?_
  refine lv_iadd hx hb dX10_addsClerk_33 ?_
  refine astI hx hb hK hP hD hS 0 0 rfl rfl (5) rfl (by omega) (by decide) dX10_addsClerk_34 (fun H locs hP hD hS => ?_)
  have hP : va_P D vwCl ([(b, .inl (T 0, 202, .inl (va_up (va_up (va_up (va_up r (19 + 3 * K) z) (19 + 3 * K + 1) z1) (19 + 3 * K + 2) 0) 5 (((va_up (va_up (va_up r (19 + 3 * K) z) (19 + 3 * K + 1) z1) (19 + 3 * K + 2) 0) 5) + 1))))]) H := hP
  have hD : va_D A ([(b, .inl (T 0, 202, .inl (va_up (va_up (va_up (va_up r (19 + 3 * K) z) (19 + 3 * K + 1) z1) (19 + 3 * K + 2) 0) 5 (((va_up (va_up (va_up r (19 + 3 * K) z) (19 + 3 * K + 1) z1) (19 + 3 * K + 2) 0) 5) + 1))))]) := hD
  refine lv_iload_n hx hb dX10_addsClerk_35 rfl (lv_at hl 0 rfl) ?_
  refine endI (r := nI K) (by rfl) ?_
  have hE : va_up (va_up (va_up (va_up r (19 + 3 * K) z) (19 + 3 * K + 1) z1) (19 + 3 * K + 2) 0) 5 (((va_up (va_up (va_up r (19 + 3 * K) z) (19 + 3 * K + 1) z1) (19 + 3 * K + 2) 0) 5) + 1) = rAddsClerk r K z z1 := by rfl
  exact hret _ _ _ _ dX10_addsClerk_36 (by rw [← hE]; exact hP) (by rw [← hE]; exact hD) hS

set_option maxHeartbeats 4000000 in
set_option maxRecDepth 100000 in
theorem c_X10_files (l : Launch) (D : va_G) (T : Nat → ClassId) (b : Nat) (r : Nat → Int32) (z : Int32) (z1 : Int32) (z2 : Int32) (N : Nat) (hN : r 6 = nI N) (hN2 : N < 24) (sz : Nat) : Met l yX10_files wsX10_files ({ frames := 1, cells := 0, slots := 0, locals := 21 } : Room) (va_Pc [.ref (b), .int (z), .int (z1), .int (z2)] (PS D T ([(b, .inl (T 0, 202, .inl r))]) sz)) (va_Qi (fun r9 (_ : Unit) => r9 = (nI N)) (fun _ t => QS D T (va_A ([(b, .inl (T 0, 202, .inl r))]) sz) ([(b, .inl (T 0, 202, .inl (rFiles r N z z1 z2)))]) t) (va_A ([(b, .inl (T 0, 202, .inl r))]) sz)) 0 0 (va_A ([(b, .inl (T 0, 202, .inl r))]) sz) := by
  refine metSi (cc := cX10_files) (maxL := 5) (ty := .int) (by decide) rfl (by rfl) (Nat.le_of_ble_eq_true rfl) ?_
  intro p e s m args below meth c Q ls A hx hb hml hown hts hP hK hD hA hS hl hret
  have hown : s.vm.findClass RX10 = some m.cls := hown
  have hl : lv_has ls 5 [(0, .ref (b)), (1, .int (z)), (2, .int (z1)), (3, .int (z2))] := hl
  refine lv_aload_n hx hb dX10_files_0 rfl (lv_at hl 0 rfl) ?_
  refine lv_bipush (v := 6) hx hb dX10_files_1 (by decide) ?_
  refine aldI hx hb hK hP 0 0 rfl rfl (6) rfl (by omega) (by decide) dX10_files_3 ?_
  refine endI (r := nI N) (hN) ?_
  refine lv_istore (lv' := [(4, .int (nI N)), (0, .ref (b)), (1, .int (z)), (2, .int (z1)), (3, .int (z2))]) hx hb dX10_files_4 hl (by decide) rfl (fun ls hl => ?_)
  refine lv_aload_n hx hb dX10_files_6 rfl (lv_at hl 1 rfl) ?_
  refine lv_iload hx hb dX10_files_7 (lv_at hl 0 rfl) ?_
  refine lv_iconst (v := 0) hx hb dX10_files_9 (by decide) ?_
  refine rdT (As := [.int (nI N), .int (0)]) (rest := [.ref (b)]) ⟨hx, hb, hml, hown, hts⟩ (c_X10_complaintAt l D T N 0 ) (va_cwS 2 hts gX10_files_X10_complaintAt rfl rfl rfl (by decide +kernel) ⟨Nat.le_of_ble_eq_true rfl, Nat.le_of_ble_eq_true rfl⟩) rfl hl.1 rfl (Nat.le_of_ble_eq_true rfl) ⟨Nat.zero_le _, Nat.zero_le _⟩ dX10_files_10 ?_
  refine lv_iload_n hx hb dX10_files_13 rfl (lv_at hl 2 rfl) ?_
  refine astI hx hb hK hP hD hS 0 0 rfl rfl (34 + 7 * N) rfl (by omega) (by decide) dX10_files_14 (fun H locs hP hD hS => ?_)
  have hP : va_P D vwCl ([(b, .inl (T 0, 202, .inl (va_up r (34 + 7 * N) z)))]) H := hP
  have hD : va_D A ([(b, .inl (T 0, 202, .inl (va_up r (34 + 7 * N) z)))]) := hD
  refine lv_aload_n hx hb dX10_files_15 rfl (lv_at hl 1 rfl) ?_
  refine lv_iload hx hb dX10_files_16 (lv_at hl 0 rfl) ?_
  refine lv_iconst (v := 1) hx hb dX10_files_18 (by decide) ?_
  refine rdT (As := [.int (nI N), .int (1)]) (rest := [.ref (b)]) ⟨hx, hb, hml, hown, hts⟩ (c_X10_complaintAt l D T N 1 ) (va_cwS 2 hts gX10_files_X10_complaintAt rfl rfl rfl (by decide +kernel) ⟨Nat.le_of_ble_eq_true rfl, Nat.le_of_ble_eq_true rfl⟩) rfl hl.1 rfl (Nat.le_of_ble_eq_true rfl) ⟨Nat.zero_le _, Nat.zero_le _⟩ dX10_files_19 ?_
  refine lv_iload_n hx hb dX10_files_22 rfl (lv_at hl 3 rfl) ?_
  refine astI hx hb hK hP hD hS 0 0 rfl rfl (34 + 7 * N + 1) rfl (by omega) (by decide) dX10_files_23 (fun H locs hP hD hS => ?_)
  have hP : va_P D vwCl ([(b, .inl (T 0, 202, .inl (va_up (va_up r (34 + 7 * N) z) (34 + 7 * N + 1) z1)))]) H := hP
  have hD : va_D A ([(b, .inl (T 0, 202, .inl (va_up (va_up r (34 + 7 * N) z) (34 + 7 * N + 1) z1)))]) := hD
  refine lv_aload_n hx hb dX10_files_24 rfl (lv_at hl 1 rfl) ?_
  refine lv_iload hx hb dX10_files_25 (lv_at hl 0 rfl) ?_
  refine lv_iconst (v := 2) hx hb dX10_files_27 (by decide) ?_
  refine rdT (As := [.int (nI N), .int (2)]) (rest := [.ref (b)]) ⟨hx, hb, hml, hown, hts⟩ (c_X10_complaintAt l D T N 2 ) (va_cwS 2 hts gX10_files_X10_complaintAt rfl rfl rfl (by decide +kernel) ⟨Nat.le_of_ble_eq_true rfl, Nat.le_of_ble_eq_true rfl⟩) rfl hl.1 rfl (Nat.le_of_ble_eq_true rfl) ⟨Nat.zero_le _, Nat.zero_le _⟩ dX10_files_28 ?_
  refine lv_iload_n hx hb dX10_files_31 rfl (lv_at hl 4 rfl) ?_
  refine astI hx hb hK hP hD hS 0 0 rfl rfl (34 + 7 * N + 2) rfl (by omega) (by decide) dX10_files_32 (fun H locs hP hD hS => ?_)
  have hP : va_P D vwCl ([(b, .inl (T 0, 202, .inl (va_up (va_up (va_up r (34 + 7 * N) z) (34 + 7 * N + 1) z1) (34 + 7 * N + 2) z2)))]) H := hP
  have hD : va_D A ([(b, .inl (T 0, 202, .inl (va_up (va_up (va_up r (34 + 7 * N) z) (34 + 7 * N + 1) z1) (34 + 7 * N + 2) z2)))]) := hD
  refine lv_aload_n hx hb dX10_files_33 rfl (lv_at hl 1 rfl) ?_
  refine lv_iload hx hb dX10_files_34 (lv_at hl 0 rfl) ?_
  refine lv_iconst (v := 3) hx hb dX10_files_36 (by decide) ?_
  refine rdT (As := [.int (nI N), .int (3)]) (rest := [.ref (b)]) ⟨hx, hb, hml, hown, hts⟩ (c_X10_complaintAt l D T N 3 ) (va_cwS 2 hts gX10_files_X10_complaintAt rfl rfl rfl (by decide +kernel) ⟨Nat.le_of_ble_eq_true rfl, Nat.le_of_ble_eq_true rfl⟩) rfl hl.1 rfl (Nat.le_of_ble_eq_true rfl) ⟨Nat.zero_le _, Nat.zero_le _⟩ dX10_files_37 ?_
  refine lv_aload_n hx hb dX10_files_40 rfl (lv_at hl 1 rfl) ?_
  refine lv_iconst (v := 0) hx hb dX10_files_41 (by decide) ?_
  refine aldI hx hb hK hP 0 0 rfl rfl (0) rfl (by omega) (by decide) dX10_files_42 ?_
  refine astI hx hb hK hP hD hS 0 0 rfl rfl (34 + 7 * N + 3) rfl (by omega) (by decide) dX10_files_43 (fun H locs hP hD hS => ?_)
  have hP : va_P D vwCl ([(b, .inl (T 0, 202, .inl (va_up (va_up (va_up (va_up r (34 + 7 * N) z) (34 + 7 * N + 1) z1) (34 + 7 * N + 2) z2) (34 + 7 * N + 3) ((va_up (va_up (va_up r (34 + 7 * N) z) (34 + 7 * N + 1) z1) (34 + 7 * N + 2) z2) 0))))]) H := hP
  have hD : va_D A ([(b, .inl (T 0, 202, .inl (va_up (va_up (va_up (va_up r (34 + 7 * N) z) (34 + 7 * N + 1) z1) (34 + 7 * N + 2) z2) (34 + 7 * N + 3) ((va_up (va_up (va_up r (34 + 7 * N) z) (34 + 7 * N + 1) z1) (34 + 7 * N + 2) z2) 0))))]) := hD
  refine lv_aload_n hx hb dX10_files_44 rfl (lv_at hl 1 rfl) ?_
  refine lv_iload hx hb dX10_files_45 (lv_at hl 0 rfl) ?_
  refine lv_iconst (v := 4) hx hb dX10_files_47 (by decide) ?_
  refine rdT (As := [.int (nI N), .int (4)]) (rest := [.ref (b)]) ⟨hx, hb, hml, hown, hts⟩ (c_X10_complaintAt l D T N 4 ) (va_cwS 2 hts gX10_files_X10_complaintAt rfl rfl rfl (by decide +kernel) ⟨Nat.le_of_ble_eq_true rfl, Nat.le_of_ble_eq_true rfl⟩) rfl hl.1 rfl (Nat.le_of_ble_eq_true rfl) ⟨Nat.zero_le _, Nat.zero_le _⟩ dX10_files_48 ?_
  refine lv_iconst (v := 0) hx hb dX10_files_51 (by decide) ?_
  refine astI hx hb hK hP hD hS 0 0 rfl rfl (34 + 7 * N + 4) rfl (by omega) (by decide) dX10_files_52 (fun H locs hP hD hS => ?_)
  have hP : va_P D vwCl ([(b, .inl (T 0, 202, .inl (va_up (va_up (va_up (va_up (va_up r (34 + 7 * N) z) (34 + 7 * N + 1) z1) (34 + 7 * N + 2) z2) (34 + 7 * N + 3) ((va_up (va_up (va_up r (34 + 7 * N) z) (34 + 7 * N + 1) z1) (34 + 7 * N + 2) z2) 0)) (34 + 7 * N + 4) 0)))]) H := hP
  have hD : va_D A ([(b, .inl (T 0, 202, .inl (va_up (va_up (va_up (va_up (va_up r (34 + 7 * N) z) (34 + 7 * N + 1) z1) (34 + 7 * N + 2) z2) (34 + 7 * N + 3) ((va_up (va_up (va_up r (34 + 7 * N) z) (34 + 7 * N + 1) z1) (34 + 7 * N + 2) z2) 0)) (34 + 7 * N + 4) 0)))]) := hD
  refine lv_aload_n hx hb dX10_files_53 rfl (lv_at hl 1 rfl) ?_
  refine lv_iload hx hb dX10_files_54 (lv_at hl 0 rfl) ?_
  refine lv_iconst (v := 5) hx hb dX10_files_56 (by decide) ?_
  refine rdT (As := [.int (nI N), .int (5)]) (rest := [.ref (b)]) ⟨hx, hb, hml, hown, hts⟩ (c_X10_complaintAt l D T N 5 ) (va_cwS 2 hts gX10_files_X10_complaintAt rfl rfl rfl (by decide +kernel) ⟨Nat.le_of_ble_eq_true rfl, Nat.le_of_ble_eq_true rfl⟩) rfl hl.1 rfl (Nat.le_of_ble_eq_true rfl) ⟨Nat.zero_le _, Nat.zero_le _⟩ dX10_files_57 ?_
  refine lv_iconst (v := -1) hx hb dX10_files_60 (by decide) ?_
  refine astI hx hb hK hP hD hS 0 0 rfl rfl (34 + 7 * N + 5) rfl (by omega) (by decide) dX10_files_61 (fun H locs hP hD hS => ?_)
  have hP : va_P D vwCl ([(b, .inl (T 0, 202, .inl (va_up (va_up (va_up (va_up (va_up (va_up r (34 + 7 * N) z) (34 + 7 * N + 1) z1) (34 + 7 * N + 2) z2) (34 + 7 * N + 3) ((va_up (va_up (va_up r (34 + 7 * N) z) (34 + 7 * N + 1) z1) (34 + 7 * N + 2) z2) 0)) (34 + 7 * N + 4) 0) (34 + 7 * N + 5) (-1))))]) H := hP
  have hD : va_D A ([(b, .inl (T 0, 202, .inl (va_up (va_up (va_up (va_up (va_up (va_up r (34 + 7 * N) z) (34 + 7 * N + 1) z1) (34 + 7 * N + 2) z2) (34 + 7 * N + 3) ((va_up (va_up (va_up r (34 + 7 * N) z) (34 + 7 * N + 1) z1) (34 + 7 * N + 2) z2) 0)) (34 + 7 * N + 4) 0) (34 + 7 * N + 5) (-1))))]) := hD
  refine lv_aload_n hx hb dX10_files_62 rfl (lv_at hl 1 rfl) ?_
  refine lv_iload hx hb dX10_files_63 (lv_at hl 0 rfl) ?_
  refine lv_bipush (v := 6) hx hb dX10_files_65 (by decide) ?_
  refine rdT (As := [.int (nI N), .int (6)]) (rest := [.ref (b)]) ⟨hx, hb, hml, hown, hts⟩ (c_X10_complaintAt l D T N 6 ) (va_cwS 2 hts gX10_files_X10_complaintAt rfl rfl rfl (by decide +kernel) ⟨Nat.le_of_ble_eq_true rfl, Nat.le_of_ble_eq_true rfl⟩) rfl hl.1 rfl (Nat.le_of_ble_eq_true rfl) ⟨Nat.zero_le _, Nat.zero_le _⟩ dX10_files_67 ?_
  refine lv_iconst (v := -1) hx hb dX10_files_70 (by decide) ?_
  refine astI hx hb hK hP hD hS 0 0 rfl rfl (34 + 7 * N + 6) rfl (by omega) (by decide) dX10_files_71 (fun H locs hP hD hS => ?_)
  have hP : va_P D vwCl ([(b, .inl (T 0, 202, .inl (va_up (va_up (va_up (va_up (va_up (va_up (va_up r (34 + 7 * N) z) (34 + 7 * N + 1) z1) (34 + 7 * N + 2) z2) (34 + 7 * N + 3) ((va_up (va_up (va_up r (34 + 7 * N) z) (34 + 7 * N + 1) z1) (34 + 7 * N + 2) z2) 0)) (34 + 7 * N + 4) 0) (34 + 7 * N + 5) (-1)) (34 + 7 * N + 6) (-1))))]) H := hP
  have hD : va_D A ([(b, .inl (T 0, 202, .inl (va_up (va_up (va_up (va_up (va_up (va_up (va_up r (34 + 7 * N) z) (34 + 7 * N + 1) z1) (34 + 7 * N + 2) z2) (34 + 7 * N + 3) ((va_up (va_up (va_up r (34 + 7 * N) z) (34 + 7 * N + 1) z1) (34 + 7 * N + 2) z2) 0)) (34 + 7 * N + 4) 0) (34 + 7 * N + 5) (-1)) (34 + 7 * N + 6) (-1))))]) := hD
  refine lv_aload_n hx hb dX10_files_72 rfl (lv_at hl 1 rfl) ?_
  refine lv_bipush (v := 6) hx hb dX10_files_73 (by decide) ?_
  refine lv_dup2_11 hx hb dX10_files_75 rfl rfl ?_
  refine aldI hx hb hK hP 0 0 rfl rfl (6) rfl (by omega) (by decide) dX10_files_76 ?_
  refine lv_iconst (v := 1) hx hb dX10_files_77 (by decide) ?_
  refine lv_iadd hx hb dX10_files_78 ?_
  refine astI hx hb hK hP hD hS 0 0 rfl rfl (6) rfl (by omega) (by decide) dX10_files_79 (fun H locs hP hD hS => ?_)
  have hP : va_P D vwCl ([(b, .inl (T 0, 202, .inl (va_up (va_up (va_up (va_up (va_up (va_up (va_up (va_up r (34 + 7 * N) z) (34 + 7 * N + 1) z1) (34 + 7 * N + 2) z2) (34 + 7 * N + 3) ((va_up (va_up (va_up r (34 + 7 * N) z) (34 + 7 * N + 1) z1) (34 + 7 * N + 2) z2) 0)) (34 + 7 * N + 4) 0) (34 + 7 * N + 5) (-1)) (34 + 7 * N + 6) (-1)) 6 (((va_up (va_up (va_up (va_up (va_up (va_up (va_up r (34 + 7 * N) z) (34 + 7 * N + 1) z1) (34 + 7 * N + 2) z2) (34 + 7 * N + 3) ((va_up (va_up (va_up r (34 + 7 * N) z) (34 + 7 * N + 1) z1) (34 + 7 * N + 2) z2) 0)) (34 + 7 * N + 4) 0) (34 + 7 * N + 5) (-1)) (34 + 7 * N + 6) (-1)) 6) + 1))))]) H := hP
  have hD : va_D A ([(b, .inl (T 0, 202, .inl (va_up (va_up (va_up (va_up (va_up (va_up (va_up (va_up r (34 + 7 * N) z) (34 + 7 * N + 1) z1) (34 + 7 * N + 2) z2) (34 + 7 * N + 3) ((va_up (va_up (va_up r (34 + 7 * N) z) (34 + 7 * N + 1) z1) (34 + 7 * N + 2) z2) 0)) (34 + 7 * N + 4) 0) (34 + 7 * N + 5) (-1)) (34 + 7 * N + 6) (-1)) 6 (((va_up (va_up (va_up (va_up (va_up (va_up (va_up r (34 + 7 * N) z) (34 + 7 * N + 1) z1) (34 + 7 * N + 2) z2) (34 + 7 * N + 3) ((va_up (va_up (va_up r (34 + 7 * N) z) (34 + 7 * N + 1) z1) (34 + 7 * N + 2) z2) 0)) (34 + 7 * N + 4) 0) (34 + 7 * N + 5) (-1)) (34 + 7 * N + 6) (-1)) 6) + 1))))]) := hD
  refine lv_iload hx hb dX10_files_80 (lv_at hl 0 rfl) ?_
  refine endI (r := nI N) (by rfl) ?_
  have hE : va_up (va_up (va_up (va_up (va_up (va_up (va_up (va_up r (34 + 7 * N) z) (34 + 7 * N + 1) z1) (34 + 7 * N + 2) z2) (34 + 7 * N + 3) ((va_up (va_up (va_up r (34 + 7 * N) z) (34 + 7 * N + 1) z1) (34 + 7 * N + 2) z2) 0)) (34 + 7 * N + 4) 0) (34 + 7 * N + 5) (-1)) (34 + 7 * N + 6) (-1)) 6 (((va_up (va_up (va_up (va_up (va_up (va_up (va_up r (34 + 7 * N) z) (34 + 7 * N + 1) z1) (34 + 7 * N + 2) z2) (34 + 7 * N + 3) ((va_up (va_up (va_up r (34 + 7 * N) z) (34 + 7 * N + 1) z1) (34 + 7 * N + 2) z2) 0)) (34 + 7 * N + 4) 0) (34 + 7 * N + 5) (-1)) (34 + 7 * N + 6) (-1)) 6) + 1) = rFiles r N z z1 z2 := by rfl
  exact hret _ _ _ _ dX10_files_82 (by rw [← hE]; exact hP) (by rw [← hE]; exact hD) hS

set_option maxHeartbeats 4000000 in
set_option maxRecDepth 100000 in
theorem c_X10_personIn (l : Launch) (D : va_G) (T : Nat → ClassId) (b : Nat) (r : Nat → Int32) (k : Nat) (hj : k < 24) : Met l yX10_personIn wsX10_personIn ({ frames := 1, cells := 0, slots := 0, locals := 21 } : Room) (va_Pc [.ref (b), .int (nI k)] (PR D T ([(b, .inl (T 0, 202, .inl r))]))) (QcRead (r (34 + 7 * k))) 0 0 (fun _ => False) := by
  refine metR (cc := cX10_personIn) (maxL := 2) (ty := .int) (by decide) rfl (by rfl) (Nat.le_of_ble_eq_true rfl) ?_
  intro p e s m args below meth c Q ls hx hb hml hown hts hP hK hl hret
  have hown : s.vm.findClass RX10 = some m.cls := hown
  have hl : lv_has ls 2 [(0, .ref (b)), (1, .int (nI k))] := hl
  refine lv_aload_n hx hb dX10_personIn_0 rfl (lv_at hl 0 rfl) ?_
  refine lv_iload_n hx hb dX10_personIn_1 rfl (lv_at hl 1 rfl) ?_
  refine lv_iconst (v := 0) hx hb dX10_personIn_2 (by decide) ?_
  refine rdT (As := [.int (nI k), .int (0)]) (rest := [.ref (b)]) ⟨hx, hb, hml, hown, hts⟩ (c_X10_complaintAt l D T k 0 ) (va_cwS 2 hts gX10_personIn_X10_complaintAt rfl rfl rfl (by decide +kernel) ⟨Nat.le_of_ble_eq_true rfl, Nat.le_of_ble_eq_true rfl⟩) rfl hl.1 rfl (Nat.le_of_ble_eq_true rfl) ⟨Nat.zero_le _, Nat.zero_le _⟩ dX10_personIn_3 ?_
  refine aldI hx hb hK hP 0 0 rfl rfl (34 + 7 * k) rfl (by omega) (by decide) dX10_personIn_6 ?_
  refine endI (r := r (34 + 7 * k)) (by rfl) ?_
  exact hret ls _ dX10_personIn_7

set_option maxHeartbeats 4000000 in
set_option maxRecDepth 100000 in
theorem c_X10_sortIn (l : Launch) (D : va_G) (T : Nat → ClassId) (b : Nat) (r : Nat → Int32) (k : Nat) (hj : k < 24) : Met l yX10_sortIn wsX10_sortIn ({ frames := 1, cells := 0, slots := 0, locals := 21 } : Room) (va_Pc [.ref (b), .int (nI k)] (PR D T ([(b, .inl (T 0, 202, .inl r))]))) (QcRead (r (34 + 7 * k + 1))) 0 0 (fun _ => False) := by
  refine metR (cc := cX10_sortIn) (maxL := 2) (ty := .int) (by decide) rfl (by rfl) (Nat.le_of_ble_eq_true rfl) ?_
  intro p e s m args below meth c Q ls hx hb hml hown hts hP hK hl hret
  have hown : s.vm.findClass RX10 = some m.cls := hown
  have hl : lv_has ls 2 [(0, .ref (b)), (1, .int (nI k))] := hl
  refine lv_aload_n hx hb dX10_sortIn_0 rfl (lv_at hl 0 rfl) ?_
  refine lv_iload_n hx hb dX10_sortIn_1 rfl (lv_at hl 1 rfl) ?_
  refine lv_iconst (v := 1) hx hb dX10_sortIn_2 (by decide) ?_
  refine rdT (As := [.int (nI k), .int (1)]) (rest := [.ref (b)]) ⟨hx, hb, hml, hown, hts⟩ (c_X10_complaintAt l D T k 1 ) (va_cwS 2 hts gX10_sortIn_X10_complaintAt rfl rfl rfl (by decide +kernel) ⟨Nat.le_of_ble_eq_true rfl, Nat.le_of_ble_eq_true rfl⟩) rfl hl.1 rfl (Nat.le_of_ble_eq_true rfl) ⟨Nat.zero_le _, Nat.zero_le _⟩ dX10_sortIn_3 ?_
  refine aldI hx hb hK hP 0 0 rfl rfl (34 + 7 * k + 1) rfl (by omega) (by decide) dX10_sortIn_6 ?_
  refine endI (r := r (34 + 7 * k + 1)) (by rfl) ?_
  exact hret ls _ dX10_sortIn_7

set_option maxHeartbeats 4000000 in
set_option maxRecDepth 100000 in
theorem c_X10_angerIn (l : Launch) (D : va_G) (T : Nat → ClassId) (b : Nat) (r : Nat → Int32) (k : Nat) (hj : k < 24) : Met l yX10_angerIn wsX10_angerIn ({ frames := 1, cells := 0, slots := 0, locals := 21 } : Room) (va_Pc [.ref (b), .int (nI k)] (PR D T ([(b, .inl (T 0, 202, .inl r))]))) (QcRead (r (34 + 7 * k + 2))) 0 0 (fun _ => False) := by
  refine metR (cc := cX10_angerIn) (maxL := 2) (ty := .int) (by decide) rfl (by rfl) (Nat.le_of_ble_eq_true rfl) ?_
  intro p e s m args below meth c Q ls hx hb hml hown hts hP hK hl hret
  have hown : s.vm.findClass RX10 = some m.cls := hown
  have hl : lv_has ls 2 [(0, .ref (b)), (1, .int (nI k))] := hl
  refine lv_aload_n hx hb dX10_angerIn_0 rfl (lv_at hl 0 rfl) ?_
  refine lv_iload_n hx hb dX10_angerIn_1 rfl (lv_at hl 1 rfl) ?_
  refine lv_iconst (v := 2) hx hb dX10_angerIn_2 (by decide) ?_
  refine rdT (As := [.int (nI k), .int (2)]) (rest := [.ref (b)]) ⟨hx, hb, hml, hown, hts⟩ (c_X10_complaintAt l D T k 2 ) (va_cwS 2 hts gX10_angerIn_X10_complaintAt rfl rfl rfl (by decide +kernel) ⟨Nat.le_of_ble_eq_true rfl, Nat.le_of_ble_eq_true rfl⟩) rfl hl.1 rfl (Nat.le_of_ble_eq_true rfl) ⟨Nat.zero_le _, Nat.zero_le _⟩ dX10_angerIn_3 ?_
  refine aldI hx hb hK hP 0 0 rfl rfl (34 + 7 * k + 2) rfl (by omega) (by decide) dX10_angerIn_6 ?_
  refine endI (r := r (34 + 7 * k + 2)) (by rfl) ?_
  exact hret ls _ dX10_angerIn_7

set_option maxHeartbeats 4000000 in
set_option maxRecDepth 100000 in
theorem c_X10_filedBy (l : Launch) (D : va_G) (T : Nat → ClassId) (b : Nat) (r : Nat → Int32) (k : Nat) (hj : k < 24) : Met l yX10_filedBy wsX10_filedBy ({ frames := 1, cells := 0, slots := 0, locals := 21 } : Room) (va_Pc [.ref (b), .int (nI k)] (PR D T ([(b, .inl (T 0, 202, .inl r))]))) (QcRead (r (34 + 7 * k + 3))) 0 0 (fun _ => False) := by
  refine metR (cc := cX10_filedBy) (maxL := 2) (ty := .int) (by decide) rfl (by rfl) (Nat.le_of_ble_eq_true rfl) ?_
  intro p e s m args below meth c Q ls hx hb hml hown hts hP hK hl hret
  have hown : s.vm.findClass RX10 = some m.cls := hown
  have hl : lv_has ls 2 [(0, .ref (b)), (1, .int (nI k))] := hl
  refine lv_aload_n hx hb dX10_filedBy_0 rfl (lv_at hl 0 rfl) ?_
  refine lv_iload_n hx hb dX10_filedBy_1 rfl (lv_at hl 1 rfl) ?_
  refine lv_iconst (v := 3) hx hb dX10_filedBy_2 (by decide) ?_
  refine rdT (As := [.int (nI k), .int (3)]) (rest := [.ref (b)]) ⟨hx, hb, hml, hown, hts⟩ (c_X10_complaintAt l D T k 3 ) (va_cwS 2 hts gX10_filedBy_X10_complaintAt rfl rfl rfl (by decide +kernel) ⟨Nat.le_of_ble_eq_true rfl, Nat.le_of_ble_eq_true rfl⟩) rfl hl.1 rfl (Nat.le_of_ble_eq_true rfl) ⟨Nat.zero_le _, Nat.zero_le _⟩ dX10_filedBy_3 ?_
  refine aldI hx hb hK hP 0 0 rfl rfl (34 + 7 * k + 3) rfl (by omega) (by decide) dX10_filedBy_6 ?_
  refine endI (r := r (34 + 7 * k + 3)) (by rfl) ?_
  exact hret ls _ dX10_filedBy_7

set_option maxHeartbeats 4000000 in
set_option maxRecDepth 100000 in
theorem c_X10_stateIn (l : Launch) (D : va_G) (T : Nat → ClassId) (b : Nat) (r : Nat → Int32) (k : Nat) (hj : k < 24) : Met l yX10_stateIn wsX10_stateIn ({ frames := 1, cells := 0, slots := 0, locals := 21 } : Room) (va_Pc [.ref (b), .int (nI k)] (PR D T ([(b, .inl (T 0, 202, .inl r))]))) (QcRead (r (34 + 7 * k + 4))) 0 0 (fun _ => False) := by
  refine metR (cc := cX10_stateIn) (maxL := 2) (ty := .int) (by decide) rfl (by rfl) (Nat.le_of_ble_eq_true rfl) ?_
  intro p e s m args below meth c Q ls hx hb hml hown hts hP hK hl hret
  have hown : s.vm.findClass RX10 = some m.cls := hown
  have hl : lv_has ls 2 [(0, .ref (b)), (1, .int (nI k))] := hl
  refine lv_aload_n hx hb dX10_stateIn_0 rfl (lv_at hl 0 rfl) ?_
  refine lv_iload_n hx hb dX10_stateIn_1 rfl (lv_at hl 1 rfl) ?_
  refine lv_iconst (v := 4) hx hb dX10_stateIn_2 (by decide) ?_
  refine rdT (As := [.int (nI k), .int (4)]) (rest := [.ref (b)]) ⟨hx, hb, hml, hown, hts⟩ (c_X10_complaintAt l D T k 4 ) (va_cwS 2 hts gX10_stateIn_X10_complaintAt rfl rfl rfl (by decide +kernel) ⟨Nat.le_of_ble_eq_true rfl, Nat.le_of_ble_eq_true rfl⟩) rfl hl.1 rfl (Nat.le_of_ble_eq_true rfl) ⟨Nat.zero_le _, Nat.zero_le _⟩ dX10_stateIn_3 ?_
  refine aldI hx hb hK hP 0 0 rfl rfl (34 + 7 * k + 4) rfl (by omega) (by decide) dX10_stateIn_6 ?_
  refine endI (r := r (34 + 7 * k + 4)) (by rfl) ?_
  exact hret ls _ dX10_stateIn_7

set_option maxHeartbeats 4000000 in
set_option maxRecDepth 100000 in
theorem c_X10_isOlder (l : Launch) (D : va_G) (T : Nat → ClassId) (b : Nat) (r : Nat → Int32) (k : Nat) (j : Nat) (hj : k < 24) (hj2 : j < 24) : Met l yX10_isOlder wsX10_isOlder ({ frames := 2, cells := 0, slots := 0, locals := 42 } : Room) (va_Pc [.ref (b), .int (nI k), .int (nI j)] (PR D T ([(b, .inl (T 0, 202, .inl r))]))) (QcRead (bI (decide (r (34 + 7 * k + 3) < r (34 + 7 * j + 3))))) 0 0 (fun _ => False) := by
  refine metR (cc := cX10_isOlder) (maxL := 3) (ty := .boolean) (by decide) rfl (by exact bI_nb _) (Nat.le_of_ble_eq_true rfl) ?_
  intro p e s m args below meth c Q ls hx hb hml hown hts hP hK hl hret
  have hown : s.vm.findClass RX10 = some m.cls := hown
  have hl : lv_has ls 3 [(0, .ref (b)), (1, .int (nI k)), (2, .int (nI j))] := hl
  refine lv_aload_n hx hb dX10_isOlder_0 rfl (lv_at hl 0 rfl) ?_
  refine lv_iload_n hx hb dX10_isOlder_1 rfl (lv_at hl 1 rfl) ?_
  refine rdS (As := [.ref (b), .int (nI k)]) (rest := []) ⟨hx, hb, hml, hown, hts⟩ (c_X10_filedBy l D T b r k (by first | omega | assumption | decide)) (va_cwS 2 hts gX10_isOlder_X10_filedBy rfl rfl rfl (by decide +kernel) ⟨Nat.le_of_ble_eq_true rfl, Nat.le_of_ble_eq_true rfl⟩) hK hP rfl hl.1 rfl (Nat.le_of_ble_eq_true rfl) ⟨Nat.zero_le _, Nat.zero_le _⟩ dX10_isOlder_2 ?_
  refine lv_aload_n hx hb dX10_isOlder_5 rfl (lv_at hl 0 rfl) ?_
  refine lv_iload_n hx hb dX10_isOlder_6 rfl (lv_at hl 2 rfl) ?_
  refine rdS (As := [.ref (b), .int (nI j)]) (rest := [.int (r (34 + 7 * k + 3))]) ⟨hx, hb, hml, hown, hts⟩ (c_X10_filedBy l D T b r j (by first | omega | assumption | decide)) (va_cwS 2 hts gX10_isOlder_X10_filedBy rfl rfl rfl (by decide +kernel) ⟨Nat.le_of_ble_eq_true rfl, Nat.le_of_ble_eq_true rfl⟩) hK hP rfl hl.1 rfl (Nat.le_of_ble_eq_true rfl) ⟨Nat.zero_le _, Nat.zero_le _⟩ dX10_isOlder_7 ?_
  refine lv_icmp_ge (tgt := 17) hx hb dX10_isOlder_10 (by decide) (fun c10 => ?_) (fun c10 => ?_)
  ·
    refine lv_iconst (v := 0) hx hb dX10_isOlder_17 (by decide) ?_
    refine endI (r := bI (decide (r (34 + 7 * k + 3) < r (34 + 7 * j + 3)))) (by (first | have c10x := Int32.not_lt.mp c10 | have c10x := Int32.not_le.mp c10 | have c10x := Int32.not_lt.mpr c10 | have c10x := Int32.not_le.mpr c10 | have c10x := c10); simp [bI, c10, c10x]) ?_
    exact hret ls _ dX10_isOlder_18
  ·
    refine lv_iconst (v := 1) hx hb dX10_isOlder_13 (by decide) ?_
    refine lv_goto (tgt := 18) hx hb dX10_isOlder_14 (by decide) ?_
    refine endI (r := bI (decide (r (34 + 7 * k + 3) < r (34 + 7 * j + 3)))) (by (first | have c10x := Int32.not_lt.mp c10 | have c10x := Int32.not_le.mp c10 | have c10x := Int32.not_lt.mpr c10 | have c10x := Int32.not_le.mpr c10 | have c10x := c10); simp [bI, c10, c10x]) ?_
    exact hret ls _ dX10_isOlder_18

set_option maxHeartbeats 4000000 in
set_option maxRecDepth 100000 in
theorem c_X10_isAngrier (l : Launch) (D : va_G) (T : Nat → ClassId) (b : Nat) (r : Nat → Int32) (k : Nat) (j : Nat) (hj : k < 24) (hj2 : j < 24) : Met l yX10_isAngrier wsX10_isAngrier ({ frames := 2, cells := 0, slots := 0, locals := 42 } : Room) (va_Pc [.ref (b), .int (nI k), .int (nI j)] (PR D T ([(b, .inl (T 0, 202, .inl r))]))) (QcRead (bI (decide (r (34 + 7 * j + 2) < r (34 + 7 * k + 2))))) 0 0 (fun _ => False) := by
  refine metR (cc := cX10_isAngrier) (maxL := 3) (ty := .boolean) (by decide) rfl (by exact bI_nb _) (Nat.le_of_ble_eq_true rfl) ?_
  intro p e s m args below meth c Q ls hx hb hml hown hts hP hK hl hret
  have hown : s.vm.findClass RX10 = some m.cls := hown
  have hl : lv_has ls 3 [(0, .ref (b)), (1, .int (nI k)), (2, .int (nI j))] := hl
  refine lv_aload_n hx hb dX10_isAngrier_0 rfl (lv_at hl 0 rfl) ?_
  refine lv_iload_n hx hb dX10_isAngrier_1 rfl (lv_at hl 1 rfl) ?_
  refine rdS (As := [.ref (b), .int (nI k)]) (rest := []) ⟨hx, hb, hml, hown, hts⟩ (c_X10_angerIn l D T b r k (by first | omega | assumption | decide)) (va_cwS 2 hts gX10_isAngrier_X10_angerIn rfl rfl rfl (by decide +kernel) ⟨Nat.le_of_ble_eq_true rfl, Nat.le_of_ble_eq_true rfl⟩) hK hP rfl hl.1 rfl (Nat.le_of_ble_eq_true rfl) ⟨Nat.zero_le _, Nat.zero_le _⟩ dX10_isAngrier_2 ?_
  refine lv_aload_n hx hb dX10_isAngrier_5 rfl (lv_at hl 0 rfl) ?_
  refine lv_iload_n hx hb dX10_isAngrier_6 rfl (lv_at hl 2 rfl) ?_
  refine rdS (As := [.ref (b), .int (nI j)]) (rest := [.int (r (34 + 7 * k + 2))]) ⟨hx, hb, hml, hown, hts⟩ (c_X10_angerIn l D T b r j (by first | omega | assumption | decide)) (va_cwS 2 hts gX10_isAngrier_X10_angerIn rfl rfl rfl (by decide +kernel) ⟨Nat.le_of_ble_eq_true rfl, Nat.le_of_ble_eq_true rfl⟩) hK hP rfl hl.1 rfl (Nat.le_of_ble_eq_true rfl) ⟨Nat.zero_le _, Nat.zero_le _⟩ dX10_isAngrier_7 ?_
  refine lv_icmp_le (tgt := 17) hx hb dX10_isAngrier_10 (by decide) (fun c10 => ?_) (fun c10 => ?_)
  ·
    refine lv_iconst (v := 0) hx hb dX10_isAngrier_17 (by decide) ?_
    refine endI (r := bI (decide (r (34 + 7 * j + 2) < r (34 + 7 * k + 2)))) (by (first | have c10x := Int32.not_lt.mp c10 | have c10x := Int32.not_le.mp c10 | have c10x := Int32.not_lt.mpr c10 | have c10x := Int32.not_le.mpr c10 | have c10x := c10); simp [bI, c10, c10x]) ?_
    exact hret ls _ dX10_isAngrier_18
  ·
    refine lv_iconst (v := 1) hx hb dX10_isAngrier_13 (by decide) ?_
    refine lv_goto (tgt := 18) hx hb dX10_isAngrier_14 (by decide) ?_
    refine endI (r := bI (decide (r (34 + 7 * j + 2) < r (34 + 7 * k + 2)))) (by (first | have c10x := Int32.not_lt.mp c10 | have c10x := Int32.not_le.mp c10 | have c10x := Int32.not_lt.mpr c10 | have c10x := Int32.not_le.mpr c10 | have c10x := c10); simp [bI, c10, c10x]) ?_
    exact hret ls _ dX10_isAngrier_18

set_option maxHeartbeats 4000000 in
set_option maxRecDepth 100000 in
theorem c_X10_oilIn (l : Launch) (D : va_G) (T : Nat → ClassId) (b : Nat) (r : Nat → Int32) (k : Nat) (hj : k < 5) : Met l yX10_oilIn wsX10_oilIn ({ frames := 1, cells := 0, slots := 0, locals := 21 } : Room) (va_Pc [.ref (b), .int (nI k)] (PR D T ([(b, .inl (T 0, 202, .inl r))]))) (QcRead (r (19 + 3 * k + 1))) 0 0 (fun _ => False) := by
  refine metR (cc := cX10_oilIn) (maxL := 2) (ty := .int) (by decide) rfl (by rfl) (Nat.le_of_ble_eq_true rfl) ?_
  intro p e s m args below meth c Q ls hx hb hml hown hts hP hK hl hret
  have hown : s.vm.findClass RX10 = some m.cls := hown
  have hl : lv_has ls 2 [(0, .ref (b)), (1, .int (nI k))] := hl
  refine lv_aload_n hx hb dX10_oilIn_0 rfl (lv_at hl 0 rfl) ?_
  refine lv_iload_n hx hb dX10_oilIn_1 rfl (lv_at hl 1 rfl) ?_
  refine lv_iconst (v := 1) hx hb dX10_oilIn_2 (by decide) ?_
  refine rdT (As := [.int (nI k), .int (1)]) (rest := [.ref (b)]) ⟨hx, hb, hml, hown, hts⟩ (c_X10_clerkAt l D T k 1 ) (va_cwS 2 hts gX10_oilIn_X10_clerkAt rfl rfl rfl (by decide +kernel) ⟨Nat.le_of_ble_eq_true rfl, Nat.le_of_ble_eq_true rfl⟩) rfl hl.1 rfl (Nat.le_of_ble_eq_true rfl) ⟨Nat.zero_le _, Nat.zero_le _⟩ dX10_oilIn_3 ?_
  refine aldI hx hb hK hP 0 0 rfl rfl (19 + 3 * k + 1) rfl (by omega) (by decide) dX10_oilIn_6 ?_
  refine endI (r := r (19 + 3 * k + 1)) (by rfl) ?_
  exact hret ls _ dX10_oilIn_7

set_option maxHeartbeats 4000000 in
set_option maxRecDepth 100000 in
theorem c_X10_hasOil (l : Launch) (D : va_G) (T : Nat → ClassId) (b : Nat) (r : Nat → Int32) (k : Nat) (z : Int32) (hj : k < 5) : Met l yX10_hasOil wsX10_hasOil ({ frames := 2, cells := 0, slots := 0, locals := 42 } : Room) (va_Pc [.ref (b), .int (nI k), .int (z)] (PR D T ([(b, .inl (T 0, 202, .inl r))]))) (QcRead (bI (decide (z ≤ r (19 + 3 * k + 1))))) 0 0 (fun _ => False) := by
  refine metR (cc := cX10_hasOil) (maxL := 3) (ty := .boolean) (by decide) rfl (by exact bI_nb _) (Nat.le_of_ble_eq_true rfl) ?_
  intro p e s m args below meth c Q ls hx hb hml hown hts hP hK hl hret
  have hown : s.vm.findClass RX10 = some m.cls := hown
  have hl : lv_has ls 3 [(0, .ref (b)), (1, .int (nI k)), (2, .int (z))] := hl
  refine lv_aload_n hx hb dX10_hasOil_0 rfl (lv_at hl 0 rfl) ?_
  refine lv_iload_n hx hb dX10_hasOil_1 rfl (lv_at hl 1 rfl) ?_
  refine rdS (As := [.ref (b), .int (nI k)]) (rest := []) ⟨hx, hb, hml, hown, hts⟩ (c_X10_oilIn l D T b r k (by first | omega | assumption | decide)) (va_cwS 2 hts gX10_hasOil_X10_oilIn rfl rfl rfl (by decide +kernel) ⟨Nat.le_of_ble_eq_true rfl, Nat.le_of_ble_eq_true rfl⟩) hK hP rfl hl.1 rfl (Nat.le_of_ble_eq_true rfl) ⟨Nat.zero_le _, Nat.zero_le _⟩ dX10_hasOil_2 ?_
  refine lv_iload_n hx hb dX10_hasOil_5 rfl (lv_at hl 2 rfl) ?_
  refine lv_icmp_lt (tgt := 13) hx hb dX10_hasOil_6 (by decide) (fun c6 => ?_) (fun c6 => ?_)
  ·
    refine lv_iconst (v := 0) hx hb dX10_hasOil_13 (by decide) ?_
    refine endI (r := bI (decide (z ≤ r (19 + 3 * k + 1)))) (by (first | have c6x := Int32.not_lt.mp c6 | have c6x := Int32.not_le.mp c6 | have c6x := Int32.not_lt.mpr c6 | have c6x := Int32.not_le.mpr c6 | have c6x := c6); simp [bI, c6, c6x]) ?_
    exact hret ls _ dX10_hasOil_14
  ·
    refine lv_iconst (v := 1) hx hb dX10_hasOil_9 (by decide) ?_
    refine lv_goto (tgt := 14) hx hb dX10_hasOil_10 (by decide) ?_
    refine endI (r := bI (decide (z ≤ r (19 + 3 * k + 1)))) (by (first | have c6x := Int32.not_lt.mp c6 | have c6x := Int32.not_le.mp c6 | have c6x := Int32.not_lt.mpr c6 | have c6x := Int32.not_le.mpr c6 | have c6x := c6); simp [bI, c6, c6x]) ?_
    exact hret ls _ dX10_hasOil_14

set_option maxHeartbeats 4000000 in
set_option maxRecDepth 100000 in
theorem c_X10_isDarker (l : Launch) (D : va_G) (T : Nat → ClassId) (b : Nat) (r : Nat → Int32) (k : Nat) (j : Nat) (hj : k < 5) (hj2 : j < 5) : Met l yX10_isDarker wsX10_isDarker ({ frames := 2, cells := 0, slots := 0, locals := 42 } : Room) (va_Pc [.ref (b), .int (nI k), .int (nI j)] (PR D T ([(b, .inl (T 0, 202, .inl r))]))) (QcRead (bI (decide (r (19 + 3 * k + 1) < r (19 + 3 * j + 1))))) 0 0 (fun _ => False) := by
  refine metR (cc := cX10_isDarker) (maxL := 3) (ty := .boolean) (by decide) rfl (by exact bI_nb _) (Nat.le_of_ble_eq_true rfl) ?_
  intro p e s m args below meth c Q ls hx hb hml hown hts hP hK hl hret
  have hown : s.vm.findClass RX10 = some m.cls := hown
  have hl : lv_has ls 3 [(0, .ref (b)), (1, .int (nI k)), (2, .int (nI j))] := hl
  refine lv_aload_n hx hb dX10_isDarker_0 rfl (lv_at hl 0 rfl) ?_
  refine lv_iload_n hx hb dX10_isDarker_1 rfl (lv_at hl 1 rfl) ?_
  refine rdS (As := [.ref (b), .int (nI k)]) (rest := []) ⟨hx, hb, hml, hown, hts⟩ (c_X10_oilIn l D T b r k (by first | omega | assumption | decide)) (va_cwS 2 hts gX10_isDarker_X10_oilIn rfl rfl rfl (by decide +kernel) ⟨Nat.le_of_ble_eq_true rfl, Nat.le_of_ble_eq_true rfl⟩) hK hP rfl hl.1 rfl (Nat.le_of_ble_eq_true rfl) ⟨Nat.zero_le _, Nat.zero_le _⟩ dX10_isDarker_2 ?_
  refine lv_aload_n hx hb dX10_isDarker_5 rfl (lv_at hl 0 rfl) ?_
  refine lv_iload_n hx hb dX10_isDarker_6 rfl (lv_at hl 2 rfl) ?_
  refine rdS (As := [.ref (b), .int (nI j)]) (rest := [.int (r (19 + 3 * k + 1))]) ⟨hx, hb, hml, hown, hts⟩ (c_X10_oilIn l D T b r j (by first | omega | assumption | decide)) (va_cwS 2 hts gX10_isDarker_X10_oilIn rfl rfl rfl (by decide +kernel) ⟨Nat.le_of_ble_eq_true rfl, Nat.le_of_ble_eq_true rfl⟩) hK hP rfl hl.1 rfl (Nat.le_of_ble_eq_true rfl) ⟨Nat.zero_le _, Nat.zero_le _⟩ dX10_isDarker_7 ?_
  refine lv_icmp_ge (tgt := 17) hx hb dX10_isDarker_10 (by decide) (fun c10 => ?_) (fun c10 => ?_)
  ·
    refine lv_iconst (v := 0) hx hb dX10_isDarker_17 (by decide) ?_
    refine endI (r := bI (decide (r (19 + 3 * k + 1) < r (19 + 3 * j + 1)))) (by (first | have c10x := Int32.not_lt.mp c10 | have c10x := Int32.not_le.mp c10 | have c10x := Int32.not_lt.mpr c10 | have c10x := Int32.not_le.mpr c10 | have c10x := c10); simp [bI, c10, c10x]) ?_
    exact hret ls _ dX10_isDarker_18
  ·
    refine lv_iconst (v := 1) hx hb dX10_isDarker_13 (by decide) ?_
    refine lv_goto (tgt := 18) hx hb dX10_isDarker_14 (by decide) ?_
    refine endI (r := bI (decide (r (19 + 3 * k + 1) < r (19 + 3 * j + 1)))) (by (first | have c10x := Int32.not_lt.mp c10 | have c10x := Int32.not_le.mp c10 | have c10x := Int32.not_lt.mpr c10 | have c10x := Int32.not_le.mpr c10 | have c10x := c10); simp [bI, c10, c10x]) ?_
    exact hret ls _ dX10_isDarker_18

set_option maxHeartbeats 4000000 in
set_option maxRecDepth 100000 in
theorem c_X10_mostBy (l : Launch) (D : va_G) (T : Nat → ClassId) (b : Nat) (r : Nat → Int32) (k : Nat) (hj : k < 5) : Met l yX10_mostBy wsX10_mostBy ({ frames := 1, cells := 0, slots := 0, locals := 21 } : Room) (va_Pc [.ref (b), .int (nI k)] (PR D T ([(b, .inl (T 0, 202, .inl r))]))) (QcRead (1 + r (19 + 3 * k) / 3)) 0 0 (fun _ => False) := by
  refine metR (cc := cX10_mostBy) (maxL := 2) (ty := .int) (by decide) rfl (by rfl) (Nat.le_of_ble_eq_true rfl) ?_
  intro p e s m args below meth c Q ls hx hb hml hown hts hP hK hl hret
  have hown : s.vm.findClass RX10 = some m.cls := hown
  have hl : lv_has ls 2 [(0, .ref (b)), (1, .int (nI k))] := hl
  refine lv_iconst (v := 1) hx hb dX10_mostBy_0 (by decide) ?_
  refine lv_aload_n hx hb dX10_mostBy_1 rfl (lv_at hl 0 rfl) ?_
  refine lv_iload_n hx hb dX10_mostBy_2 rfl (lv_at hl 1 rfl) ?_
  refine lv_iconst (v := 0) hx hb dX10_mostBy_3 (by decide) ?_
  refine rdT (As := [.int (nI k), .int (0)]) (rest := [.ref (b), .int (1)]) ⟨hx, hb, hml, hown, hts⟩ (c_X10_clerkAt l D T k 0 ) (va_cwS 2 hts gX10_mostBy_X10_clerkAt rfl rfl rfl (by decide +kernel) ⟨Nat.le_of_ble_eq_true rfl, Nat.le_of_ble_eq_true rfl⟩) rfl hl.1 rfl (Nat.le_of_ble_eq_true rfl) ⟨Nat.zero_le _, Nat.zero_le _⟩ dX10_mostBy_4 ?_
  refine aldI hx hb hK hP 0 0 rfl rfl (19 + 3 * k) rfl (by omega) (by decide) dX10_mostBy_7 ?_
  refine lv_iconst (v := 3) hx hb dX10_mostBy_8 (by decide) ?_
  refine lv_idiv hx hb dX10_mostBy_9 (by decide) ?_
  refine lv_iadd hx hb dX10_mostBy_10 ?_
  refine endI (r := 1 + r (19 + 3 * k) / 3) (by rfl) ?_
  exact hret ls _ dX10_mostBy_11

set_option maxHeartbeats 4000000 in
set_option maxRecDepth 100000 in
theorem c_X10_waits (l : Launch) (D : va_G) (T : Nat → ClassId) (b : Nat) (r : Nat → Int32) (k : Nat) (hj : k < 24) : Met l yX10_waits wsX10_waits ({ frames := 2, cells := 0, slots := 0, locals := 42 } : Room) (va_Pc [.ref (b), .int (nI k)] (PR D T ([(b, .inl (T 0, 202, .inl r))]))) (QcRead (bI (decide (r (34 + 7 * k + 4) = 0)))) 0 0 (fun _ => False) := by
  refine metR (cc := cX10_waits) (maxL := 2) (ty := .boolean) (by decide) rfl (by exact bI_nb _) (Nat.le_of_ble_eq_true rfl) ?_
  intro p e s m args below meth c Q ls hx hb hml hown hts hP hK hl hret
  have hown : s.vm.findClass RX10 = some m.cls := hown
  have hl : lv_has ls 2 [(0, .ref (b)), (1, .int (nI k))] := hl
  refine lv_aload_n hx hb dX10_waits_0 rfl (lv_at hl 0 rfl) ?_
  refine lv_iload_n hx hb dX10_waits_1 rfl (lv_at hl 1 rfl) ?_
  refine rdS (As := [.ref (b), .int (nI k)]) (rest := []) ⟨hx, hb, hml, hown, hts⟩ (c_X10_stateIn l D T b r k (by first | omega | assumption | decide)) (va_cwS 2 hts gX10_waits_X10_stateIn rfl rfl rfl (by decide +kernel) ⟨Nat.le_of_ble_eq_true rfl, Nat.le_of_ble_eq_true rfl⟩) hK hP rfl hl.1 rfl (Nat.le_of_ble_eq_true rfl) ⟨Nat.zero_le _, Nat.zero_le _⟩ dX10_waits_2 ?_
  refine lv_if_ne (tgt := 12) hx hb dX10_waits_5 (by decide) (fun c5 => ?_) (fun c5 => ?_)
  ·
    refine lv_iconst (v := 0) hx hb dX10_waits_12 (by decide) ?_
    refine endI (r := bI (decide (r (34 + 7 * k + 4) = 0))) (by simp [bI, c5]) ?_
    exact hret ls _ dX10_waits_13
  ·
    refine lv_iconst (v := 1) hx hb dX10_waits_8 (by decide) ?_
    refine lv_goto (tgt := 13) hx hb dX10_waits_9 (by decide) ?_
    refine endI (r := bI (decide (r (34 + 7 * k + 4) = 0))) (by simp [bI, c5]) ?_
    exact hret ls _ dX10_waits_13

set_option maxHeartbeats 4000000 in
set_option maxRecDepth 100000 in
theorem c_X10_ageOf (l : Launch) (D : va_G) (T : Nat → ClassId) (b : Nat) (r : Nat → Int32) (k : Nat) (hj : k < 24) : Met l yX10_ageOf wsX10_ageOf ({ frames := 2, cells := 0, slots := 0, locals := 42 } : Room) (va_Pc [.ref (b), .int (nI k)] (PR D T ([(b, .inl (T 0, 202, .inl r))]))) (QcRead (r 0 - r (34 + 7 * k + 3))) 0 0 (fun _ => False) := by
  refine metR (cc := cX10_ageOf) (maxL := 2) (ty := .int) (by decide) rfl (by rfl) (Nat.le_of_ble_eq_true rfl) ?_
  intro p e s m args below meth c Q ls hx hb hml hown hts hP hK hl hret
  have hown : s.vm.findClass RX10 = some m.cls := hown
  have hl : lv_has ls 2 [(0, .ref (b)), (1, .int (nI k))] := hl
  refine lv_aload_n hx hb dX10_ageOf_0 rfl (lv_at hl 0 rfl) ?_
  refine lv_iconst (v := 0) hx hb dX10_ageOf_1 (by decide) ?_
  refine aldI hx hb hK hP 0 0 rfl rfl (0) rfl (by omega) (by decide) dX10_ageOf_2 ?_
  refine lv_aload_n hx hb dX10_ageOf_3 rfl (lv_at hl 0 rfl) ?_
  refine lv_iload_n hx hb dX10_ageOf_4 rfl (lv_at hl 1 rfl) ?_
  refine rdS (As := [.ref (b), .int (nI k)]) (rest := [.int (r 0)]) ⟨hx, hb, hml, hown, hts⟩ (c_X10_filedBy l D T b r k (by first | omega | assumption | decide)) (va_cwS 2 hts gX10_ageOf_X10_filedBy rfl rfl rfl (by decide +kernel) ⟨Nat.le_of_ble_eq_true rfl, Nat.le_of_ble_eq_true rfl⟩) hK hP rfl hl.1 rfl (Nat.le_of_ble_eq_true rfl) ⟨Nat.zero_le _, Nat.zero_le _⟩ dX10_ageOf_5 ?_
  refine lv_isub hx hb dX10_ageOf_8 ?_
  refine endI (r := r 0 - r (34 + 7 * k + 3)) (by rfl) ?_
  exact hret ls _ dX10_ageOf_9

set_option maxHeartbeats 4000000 in
set_option maxRecDepth 100000 in
theorem c_X10_isOld (l : Launch) (D : va_G) (T : Nat → ClassId) (b : Nat) (r : Nat → Int32) (k : Nat) (hj : k < 24) : Met l yX10_isOld wsX10_isOld ({ frames := 3, cells := 0, slots := 0, locals := 63 } : Room) (va_Pc [.ref (b), .int (nI k)] (PR D T ([(b, .inl (T 0, 202, .inl r))]))) (QcRead (bI (decide (14 ≤ r 0 - r (34 + 7 * k + 3))))) 0 0 (fun _ => False) := by
  refine metR (cc := cX10_isOld) (maxL := 2) (ty := .boolean) (by decide) rfl (by exact bI_nb _) (Nat.le_of_ble_eq_true rfl) ?_
  intro p e s m args below meth c Q ls hx hb hml hown hts hP hK hl hret
  have hown : s.vm.findClass RX10 = some m.cls := hown
  have hl : lv_has ls 2 [(0, .ref (b)), (1, .int (nI k))] := hl
  refine lv_aload_n hx hb dX10_isOld_0 rfl (lv_at hl 0 rfl) ?_
  refine lv_iload_n hx hb dX10_isOld_1 rfl (lv_at hl 1 rfl) ?_
  refine rdS (As := [.ref (b), .int (nI k)]) (rest := []) ⟨hx, hb, hml, hown, hts⟩ (c_X10_ageOf l D T b r k (by first | omega | assumption | decide)) (va_cwS 2 hts gX10_isOld_X10_ageOf rfl rfl rfl (by decide +kernel) ⟨Nat.le_of_ble_eq_true rfl, Nat.le_of_ble_eq_true rfl⟩) hK hP rfl hl.1 rfl (Nat.le_of_ble_eq_true rfl) ⟨Nat.zero_le _, Nat.zero_le _⟩ dX10_isOld_2 ?_
  refine lv_bipush (v := 14) hx hb dX10_isOld_5 (by decide) ?_
  refine lv_icmp_lt (tgt := 14) hx hb dX10_isOld_7 (by decide) (fun c7 => ?_) (fun c7 => ?_)
  ·
    refine lv_iconst (v := 0) hx hb dX10_isOld_14 (by decide) ?_
    refine endI (r := bI (decide (14 ≤ r 0 - r (34 + 7 * k + 3)))) (by (first | have c7x := Int32.not_lt.mp c7 | have c7x := Int32.not_le.mp c7 | have c7x := Int32.not_lt.mpr c7 | have c7x := Int32.not_le.mpr c7 | have c7x := c7); simp [bI, c7, c7x]) ?_
    exact hret ls _ dX10_isOld_15
  ·
    refine lv_iconst (v := 1) hx hb dX10_isOld_10 (by decide) ?_
    refine lv_goto (tgt := 15) hx hb dX10_isOld_11 (by decide) ?_
    refine endI (r := bI (decide (14 ≤ r 0 - r (34 + 7 * k + 3)))) (by (first | have c7x := Int32.not_lt.mp c7 | have c7x := Int32.not_le.mp c7 | have c7x := Int32.not_lt.mpr c7 | have c7x := Int32.not_le.mpr c7 | have c7x := c7); simp [bI, c7, c7x]) ?_
    exact hret ls _ dX10_isOld_15

set_option maxHeartbeats 4000000 in
set_option maxRecDepth 100000 in
theorem c_X10_waitOf (l : Launch) (D : va_G) (T : Nat → ClassId) (b : Nat) (r : Nat → Int32) (k : Nat) (hj : k < 24) : Met l yX10_waitOf wsX10_waitOf ({ frames := 2, cells := 0, slots := 0, locals := 42 } : Room) (va_Pc [.ref (b), .int (nI k)] (PR D T ([(b, .inl (T 0, 202, .inl r))]))) (QcRead (r (34 + 7 * k + 5) - r (34 + 7 * k + 3))) 0 0 (fun _ => False) := by
  refine metR (cc := cX10_waitOf) (maxL := 2) (ty := .int) (by decide) rfl (by rfl) (Nat.le_of_ble_eq_true rfl) ?_
  intro p e s m args below meth c Q ls hx hb hml hown hts hP hK hl hret
  have hown : s.vm.findClass RX10 = some m.cls := hown
  have hl : lv_has ls 2 [(0, .ref (b)), (1, .int (nI k))] := hl
  refine lv_aload_n hx hb dX10_waitOf_0 rfl (lv_at hl 0 rfl) ?_
  refine lv_iload_n hx hb dX10_waitOf_1 rfl (lv_at hl 1 rfl) ?_
  refine lv_iconst (v := 5) hx hb dX10_waitOf_2 (by decide) ?_
  refine rdT (As := [.int (nI k), .int (5)]) (rest := [.ref (b)]) ⟨hx, hb, hml, hown, hts⟩ (c_X10_complaintAt l D T k 5 ) (va_cwS 2 hts gX10_waitOf_X10_complaintAt rfl rfl rfl (by decide +kernel) ⟨Nat.le_of_ble_eq_true rfl, Nat.le_of_ble_eq_true rfl⟩) rfl hl.1 rfl (Nat.le_of_ble_eq_true rfl) ⟨Nat.zero_le _, Nat.zero_le _⟩ dX10_waitOf_3 ?_
  refine aldI hx hb hK hP 0 0 rfl rfl (34 + 7 * k + 5) rfl (by omega) (by decide) dX10_waitOf_6 ?_
  refine lv_aload_n hx hb dX10_waitOf_7 rfl (lv_at hl 0 rfl) ?_
  refine lv_iload_n hx hb dX10_waitOf_8 rfl (lv_at hl 1 rfl) ?_
  refine rdS (As := [.ref (b), .int (nI k)]) (rest := [.int (r (34 + 7 * k + 5))]) ⟨hx, hb, hml, hown, hts⟩ (c_X10_filedBy l D T b r k (by first | omega | assumption | decide)) (va_cwS 2 hts gX10_waitOf_X10_filedBy rfl rfl rfl (by decide +kernel) ⟨Nat.le_of_ble_eq_true rfl, Nat.le_of_ble_eq_true rfl⟩) hK hP rfl hl.1 rfl (Nat.le_of_ble_eq_true rfl) ⟨Nat.zero_le _, Nat.zero_le _⟩ dX10_waitOf_9 ?_
  refine lv_isub hx hb dX10_waitOf_12 ?_
  refine endI (r := r (34 + 7 * k + 5) - r (34 + 7 * k + 3)) (by rfl) ?_
  exact hret ls _ dX10_waitOf_13

set_option maxHeartbeats 4000000 in
set_option maxRecDepth 100000 in
theorem c_X10_waitingBy (l : Launch) (D : va_G) (T : Nat → ClassId) (b : Nat) (r : Nat → Int32) (z : Int32) (z1 : Int32) (N : Nat) (hN : r 6 = nI N) (hN2 : N ≤ 24) : Met l yX10_waitingBy wsX10_waitingBy ({ frames := 3, cells := 0, slots := 0, locals := 63 } : Room) (va_Pc [.ref (b), .int (z), .int (z1)] (PR D T ([(b, .inl (T 0, 202, .inl r))]))) (QcRead (oI (findR r z z1 N))) 0 0 (fun _ => False) := by
  refine metR (cc := cX10_waitingBy) (maxL := 4) (ty := .int) (by decide) rfl (by rfl) (Nat.le_of_ble_eq_true rfl) ?_
  intro p e s m args below meth c Q ls hx hb hml hown hts hP hK hl hret
  have hown : s.vm.findClass RX10 = some m.cls := hown
  have hl : lv_has ls 4 [(0, .ref (b)), (1, .int (z)), (2, .int (z1))] := hl
  refine lv_iconst (v := 0) hx hb dX10_waitingBy_0 (by decide) ?_
  refine lv_istore_n (lv' := [(3, .int (0)), (0, .ref (b)), (1, .int (z)), (2, .int (z1))]) hx hb dX10_waitingBy_1 rfl hl (by decide) rfl (fun ls hl => ?_)
  have L2 : ∀ (n9 : Nat) (k : Nat), (N - k) < n9 → (k ≤ N) → (ffind (fun k => decide (r (34 + 7 * k + 4) = 0) && decide (r (34 + 7 * k) = z) && decide (r (34 + 7 * k + 1) = z1)) (N - k) k = findR r z z1 N) → ∀ (ls : Array Slot), lv_has ls 4 [(3, .int (nI k)), (0, .ref (b)), (1, .int (z)), (2, .int (z1))] → W p l e ({ frames := 3, cells := 0, slots := 0, locals := 63 } : Room) s m args below meth c s.heap [] 0 0 Q (F0 m 2 ls []) := by
    intro n9
    induction n9 with
    | zero => intro k hm9; exact absurd hm9 (Nat.not_lt_zero _)
    | succ n9 ih =>
      intro k hm9 hk9 hR ls hl
      refine lv_iload_n hx hb dX10_waitingBy_2 rfl (lv_at hl 0 rfl) ?_
      refine lv_aload_n hx hb dX10_waitingBy_3 rfl (lv_at hl 1 rfl) ?_
      refine lv_bipush (v := 6) hx hb dX10_waitingBy_4 (by decide) ?_
      refine aldI hx hb hK hP 0 0 rfl rfl (6) rfl (by omega) (by decide) dX10_waitingBy_6 ?_
      refine endI (r := nI N) (hN) ?_
      refine lv_icmp_ge (tgt := 44) hx hb dX10_waitingBy_7 (by decide) (fun c7 => ?_) (fun c7 => ?_)
      ·
        have c7 : N ≤ k := (nI_leI (a := N) (b := k) (by omega) (by omega)).mp c7
        refine lv_iconst (v := -1) hx hb dX10_waitingBy_44 (by decide) ?_
        refine endI (r := oI (findR r z z1 N)) (by first | (rw [ffind_done (by omega)] at hR; rw [← hR]; rfl) | (rw [ffind_step (by omega)] at hR; simp [c7] at hR; rw [← hR]; rfl)) ?_
        exact hret ls _ dX10_waitingBy_45
      ·
        have c7 : ¬ N ≤ k := fun h9 => c7 ((nI_leI (a := N) (b := k) (by omega) (by omega)).mpr h9)
        refine lv_aload_n hx hb dX10_waitingBy_10 rfl (lv_at hl 1 rfl) ?_
        refine lv_iload_n hx hb dX10_waitingBy_11 rfl (lv_at hl 0 rfl) ?_
        refine rdS (As := [.ref (b), .int (nI k)]) (rest := []) ⟨hx, hb, hml, hown, hts⟩ (c_X10_waits l D T b r k (by first | omega | assumption | decide)) (va_cwS 2 hts gX10_waitingBy_X10_waits rfl rfl rfl (by decide +kernel) ⟨Nat.le_of_ble_eq_true rfl, Nat.le_of_ble_eq_true rfl⟩) hK hP rfl hl.1 rfl (Nat.le_of_ble_eq_true rfl) ⟨Nat.zero_le _, Nat.zero_le _⟩ dX10_waitingBy_12 ?_
        refine lv_if_eq (tgt := 38) hx hb dX10_waitingBy_15 (by decide) (fun c15 => ?_) (fun c15 => ?_)
        ·
          have c15 := bI_0.mp c15
          refine lv_iinc (v := nI (k + 1)) (lv' := [(3, .int (nI (k + 1))), (0, .ref (b)), (1, .int (z)), (2, .int (z1))]) hx hb dX10_waitingBy_38 hl (k := 0) rfl (nI_1 _) (by decide) rfl (fun ls hl => ?_)
          refine lv_goto (tgt := 2) hx hb dX10_waitingBy_41 (by decide) ?_
          exact ih (k + 1) (by omega) (by omega) (by rw [ffind_step (by omega)] at hR; simpa [c7, c15] using hR) _ (lv_sub hl [0, 1, 2, 3] rfl)
        ·
          have c15 := bI_n0.mp c15
          refine lv_aload_n hx hb dX10_waitingBy_18 rfl (lv_at hl 1 rfl) ?_
          refine lv_iload_n hx hb dX10_waitingBy_19 rfl (lv_at hl 0 rfl) ?_
          refine rdS (As := [.ref (b), .int (nI k)]) (rest := []) ⟨hx, hb, hml, hown, hts⟩ (c_X10_personIn l D T b r k (by first | omega | assumption | decide)) (va_cwS 2 hts gX10_waitingBy_X10_personIn rfl rfl rfl (by decide +kernel) ⟨Nat.le_of_ble_eq_true rfl, Nat.le_of_ble_eq_true rfl⟩) hK hP rfl hl.1 rfl (Nat.le_of_ble_eq_true rfl) ⟨Nat.zero_le _, Nat.zero_le _⟩ dX10_waitingBy_20 ?_
          refine lv_iload_n hx hb dX10_waitingBy_23 rfl (lv_at hl 2 rfl) ?_
          refine lv_icmp_ne (tgt := 38) hx hb dX10_waitingBy_24 (by decide) (fun c24 => ?_) (fun c24 => ?_)
          ·
            refine lv_iinc (v := nI (k + 1)) (lv' := [(3, .int (nI (k + 1))), (0, .ref (b)), (1, .int (z)), (2, .int (z1))]) hx hb dX10_waitingBy_38 hl (k := 0) rfl (nI_1 _) (by decide) rfl (fun ls hl => ?_)
            refine lv_goto (tgt := 2) hx hb dX10_waitingBy_41 (by decide) ?_
            exact ih (k + 1) (by omega) (by omega) (by rw [ffind_step (by omega)] at hR; simpa [c7, c15, c24] using hR) _ (lv_sub hl [0, 1, 2, 3] rfl)
          ·
            refine lv_aload_n hx hb dX10_waitingBy_27 rfl (lv_at hl 1 rfl) ?_
            refine lv_iload_n hx hb dX10_waitingBy_28 rfl (lv_at hl 0 rfl) ?_
            refine rdS (As := [.ref (b), .int (nI k)]) (rest := []) ⟨hx, hb, hml, hown, hts⟩ (c_X10_sortIn l D T b r k (by first | omega | assumption | decide)) (va_cwS 2 hts gX10_waitingBy_X10_sortIn rfl rfl rfl (by decide +kernel) ⟨Nat.le_of_ble_eq_true rfl, Nat.le_of_ble_eq_true rfl⟩) hK hP rfl hl.1 rfl (Nat.le_of_ble_eq_true rfl) ⟨Nat.zero_le _, Nat.zero_le _⟩ dX10_waitingBy_29 ?_
            refine lv_iload_n hx hb dX10_waitingBy_32 rfl (lv_at hl 3 rfl) ?_
            refine lv_icmp_ne (tgt := 38) hx hb dX10_waitingBy_33 (by decide) (fun c33 => ?_) (fun c33 => ?_)
            ·
              refine lv_iinc (v := nI (k + 1)) (lv' := [(3, .int (nI (k + 1))), (0, .ref (b)), (1, .int (z)), (2, .int (z1))]) hx hb dX10_waitingBy_38 hl (k := 0) rfl (nI_1 _) (by decide) rfl (fun ls hl => ?_)
              refine lv_goto (tgt := 2) hx hb dX10_waitingBy_41 (by decide) ?_
              exact ih (k + 1) (by omega) (by omega) (by rw [ffind_step (by omega)] at hR; simpa [c7, c15, c24, c33] using hR) _ (lv_sub hl [0, 1, 2, 3] rfl)
            ·
              refine lv_iload_n hx hb dX10_waitingBy_36 rfl (lv_at hl 0 rfl) ?_
              refine endI (r := oI (findR r z z1 N)) (by first | (rw [ffind_done (by omega)] at hR; rw [← hR]; rfl) | (rw [ffind_step (by omega)] at hR; simp [c7, c15, c24, c33] at hR; rw [← hR]; rfl)) ?_
              exact hret ls _ dX10_waitingBy_37
  exact L2 _ 0 (Nat.lt_succ_self _) (by omega) (by first | rfl | (simp; done)) _ (lv_sub hl [0, 1, 2, 3] rfl)

set_option maxHeartbeats 4000000 in
set_option maxRecDepth 100000 in
theorem c_X10_countOf (l : Launch) (D : va_G) (T : Nat → ClassId) (b : Nat) (r : Nat → Int32) (z : Int32) (N : Nat) (hN : r 6 = nI N) (hN2 : N ≤ 24) : Met l yX10_countOf wsX10_countOf ({ frames := 2, cells := 0, slots := 0, locals := 42 } : Room) (va_Pc [.ref (b), .int (z)] (PR D T ([(b, .inl (T 0, 202, .inl r))]))) (QcRead (cntR r z N)) 0 0 (fun _ => False) := by
  refine metR (cc := cX10_countOf) (maxL := 4) (ty := .int) (by decide) rfl (by rfl) (Nat.le_of_ble_eq_true rfl) ?_
  intro p e s m args below meth c Q ls hx hb hml hown hts hP hK hl hret
  have hown : s.vm.findClass RX10 = some m.cls := hown
  have hl : lv_has ls 4 [(0, .ref (b)), (1, .int (z))] := hl
  refine lv_iconst (v := 0) hx hb dX10_countOf_0 (by decide) ?_
  refine lv_istore_n (lv' := [(2, .int (0)), (0, .ref (b)), (1, .int (z))]) hx hb dX10_countOf_1 rfl hl (by decide) rfl (fun ls hl => ?_)
  refine lv_iconst (v := 0) hx hb dX10_countOf_2 (by decide) ?_
  refine lv_istore_n (lv' := [(3, .int (0)), (2, .int (0)), (0, .ref (b)), (1, .int (z))]) hx hb dX10_countOf_3 rfl hl (by decide) rfl (fun ls hl => ?_)
  have L4 : ∀ (n9 : Nat) (k : Nat) (x : Int32), (N - k) < n9 → (k ≤ N) → (cntI (fun k => decide (r (34 + 7 * k + 4) = z)) (N - k) k x = cntR r z N) → ∀ (ls : Array Slot), lv_has ls 4 [(3, .int (nI k)), (2, .int (x)), (0, .ref (b)), (1, .int (z))] → W p l e ({ frames := 2, cells := 0, slots := 0, locals := 42 } : Room) s m args below meth c s.heap [] 0 0 Q (F0 m 4 ls []) := by
    intro n9
    induction n9 with
    | zero => intro k x hm9; exact absurd hm9 (Nat.not_lt_zero _)
    | succ n9 ih =>
      intro k x hm9 hk9 hR ls hl
      refine lv_iload_n hx hb dX10_countOf_4 rfl (lv_at hl 0 rfl) ?_
      refine lv_aload_n hx hb dX10_countOf_5 rfl (lv_at hl 2 rfl) ?_
      refine lv_bipush (v := 6) hx hb dX10_countOf_6 (by decide) ?_
      refine aldI hx hb hK hP 0 0 rfl rfl (6) rfl (by omega) (by decide) dX10_countOf_8 ?_
      refine endI (r := nI N) (hN) ?_
      refine lv_icmp_ge (tgt := 30) hx hb dX10_countOf_9 (by decide) (fun c9 => ?_) (fun c9 => ?_)
      ·
        have c9 : N ≤ k := (nI_leI (a := N) (b := k) (by omega) (by omega)).mp c9
        refine lv_iload_n hx hb dX10_countOf_30 rfl (lv_at hl 1 rfl) ?_
        refine endI (r := cntR r z N) (by rw [cntI_done (by omega)] at hR; exact hR) ?_
        exact hret ls _ dX10_countOf_31
      ·
        have c9 : ¬ N ≤ k := fun h9 => c9 ((nI_leI (a := N) (b := k) (by omega) (by omega)).mpr h9)
        refine lv_aload_n hx hb dX10_countOf_12 rfl (lv_at hl 2 rfl) ?_
        refine lv_iload_n hx hb dX10_countOf_13 rfl (lv_at hl 0 rfl) ?_
        refine rdS (As := [.ref (b), .int (nI k)]) (rest := []) ⟨hx, hb, hml, hown, hts⟩ (c_X10_stateIn l D T b r k (by first | omega | assumption | decide)) (va_cwS 2 hts gX10_countOf_X10_stateIn rfl rfl rfl (by decide +kernel) ⟨Nat.le_of_ble_eq_true rfl, Nat.le_of_ble_eq_true rfl⟩) hK hP rfl hl.1 rfl (Nat.le_of_ble_eq_true rfl) ⟨Nat.zero_le _, Nat.zero_le _⟩ dX10_countOf_14 ?_
        refine lv_iload_n hx hb dX10_countOf_17 rfl (lv_at hl 3 rfl) ?_
        refine lv_icmp_ne (tgt := 24) hx hb dX10_countOf_18 (by decide) (fun c18 => ?_) (fun c18 => ?_)
        ·
          refine lv_iinc (v := nI (k + 1)) (lv' := [(3, .int (nI (k + 1))), (2, .int (x)), (0, .ref (b)), (1, .int (z))]) hx hb dX10_countOf_24 hl (k := 0) rfl (nI_1 _) (by decide) rfl (fun ls hl => ?_)
          refine lv_goto (tgt := 4) hx hb dX10_countOf_27 (by decide) ?_
          exact ih (k + 1) x (by omega) (by omega) (by rw [cntI_step (by omega)] at hR; simpa [c9, c18] using hR) _ (lv_sub hl [0, 1, 2, 3] rfl)
        ·
          refine lv_iinc (v := x + 1) (lv' := [(2, .int (x + 1)), (3, .int (nI k)), (0, .ref (b)), (1, .int (z))]) hx hb dX10_countOf_21 hl (k := 1) rfl rfl (by decide) rfl (fun ls hl => ?_)
          refine lv_iinc (v := nI (k + 1)) (lv' := [(3, .int (nI (k + 1))), (2, .int (x + 1)), (0, .ref (b)), (1, .int (z))]) hx hb dX10_countOf_24 hl (k := 1) rfl (nI_1 _) (by decide) rfl (fun ls hl => ?_)
          refine lv_goto (tgt := 4) hx hb dX10_countOf_27 (by decide) ?_
          exact ih (k + 1) (x + 1) (by omega) (by omega) (by rw [cntI_step (by omega)] at hR; simpa [c9, c18] using hR) _ (lv_sub hl [0, 1, 2, 3] rfl)
  exact L4 _ 0 0 (Nat.lt_succ_self _) (by omega) (by first | rfl | (simp; done)) _ (lv_sub hl [0, 1, 2, 3] rfl)

set_option maxHeartbeats 4000000 in
set_option maxRecDepth 100000 in
theorem c_X10_angriestJust (l : Launch) (D : va_G) (T : Nat → ClassId) (b : Nat) (r : Nat → Int32) (N : Nat) (C : Nat) (nt : Nat) (hN : r 6 = nI N) (hN2 : N ≤ 24) (hC : r 4 = nI C) (hC1 : 0 < C) (hC2 : C ≤ 10) (hn : r 0 = nI nt) (hnt : nt < 2 ^ 20) (hSo : ∀ k, k < N → ∃ q, q < 4 ∧ r (34 + 7 * k + 1) = nI q) : Met l yX10_angriestJust wsX10_angriestJust ({ frames := 4, cells := 0, slots := 0, locals := 84 } : Room) (va_Pc [.ref (b)] (PR D T ([(b, .inl (T 0, 202, .inl r))]))) (QcRead (oI (angR r N C nt))) 0 0 (fun _ => False) := by
  refine metR (cc := cX10_angriestJust) (maxL := 3) (ty := .int) (by decide) rfl (by rfl) (Nat.le_of_ble_eq_true rfl) ?_
  intro p e s m args below meth c Q ls hx hb hml hown hts hP hK hl hret
  have hown : s.vm.findClass RX10 = some m.cls := hown
  have hl : lv_has ls 3 [(0, .ref (b))] := hl
  refine lv_iconst (v := -1) hx hb dX10_angriestJust_0 (by decide) ?_
  refine lv_istore_n (lv' := [(1, .int (-1)), (0, .ref (b))]) hx hb dX10_angriestJust_1 rfl hl (by decide) rfl (fun ls hl => ?_)
  refine lv_iconst (v := 0) hx hb dX10_angriestJust_2 (by decide) ?_
  refine lv_istore_n (lv' := [(2, .int (0)), (1, .int (-1)), (0, .ref (b))]) hx hb dX10_angriestJust_3 rfl hl (by decide) rfl (fun ls hl => ?_)
  have L4 : ∀ (n9 : Nat) (k : Nat) (bo : Option Nat), (N - k) < n9 → (k ≤ N) → (bestB (fun k => decide (r (34 + 7 * k + 4) = 0) && justR r C nt k) (fun k j => decide (r (34 + 7 * j + 2) < r (34 + 7 * k + 2))) (N - k) k bo = angR r N C nt) → (∀ j, bo = some j → j < 24) → ∀ (ls : Array Slot), lv_has ls 3 [(2, .int (nI k)), (1, .int (oI bo)), (0, .ref (b))] → W p l e ({ frames := 4, cells := 0, slots := 0, locals := 84 } : Room) s m args below meth c s.heap [] 0 0 Q (F0 m 4 ls []) := by
    intro n9
    induction n9 with
    | zero => intro k bo hm9; exact absurd hm9 (Nat.not_lt_zero _)
    | succ n9 ih =>
      intro k bo hm9 hk9 hR hb9 ls hl
      refine lv_iload_n hx hb dX10_angriestJust_4 rfl (lv_at hl 0 rfl) ?_
      refine lv_aload_n hx hb dX10_angriestJust_5 rfl (lv_at hl 2 rfl) ?_
      refine lv_bipush (v := 6) hx hb dX10_angriestJust_6 (by decide) ?_
      refine aldI hx hb hK hP 0 0 rfl rfl (6) rfl (by omega) (by decide) dX10_angriestJust_8 ?_
      refine endI (r := nI N) (hN) ?_
      refine lv_icmp_ge (tgt := 59) hx hb dX10_angriestJust_9 (by decide) (fun c9 => ?_) (fun c9 => ?_)
      ·
        have c9 : N ≤ k := (nI_leI (a := N) (b := k) (by omega) (by omega)).mp c9
        refine lv_iload_n hx hb dX10_angriestJust_59 rfl (lv_at hl 1 rfl) ?_
        refine endI (r := oI (angR r N C nt)) (by rw [bestB_done (by omega)] at hR; rw [hR]) ?_
        exact hret ls _ dX10_angriestJust_60
      ·
        have c9 : ¬ N ≤ k := fun h9 => c9 ((nI_leI (a := N) (b := k) (by omega) (by omega)).mpr h9)
        refine lv_aload_n hx hb dX10_angriestJust_12 rfl (lv_at hl 2 rfl) ?_
        refine lv_iload_n hx hb dX10_angriestJust_13 rfl (lv_at hl 0 rfl) ?_
        refine rdS (As := [.ref (b), .int (nI k)]) (rest := []) ⟨hx, hb, hml, hown, hts⟩ (c_X10_waits l D T b r k (by first | omega | assumption | decide)) (va_cwS 2 hts gX10_angriestJust_X10_waits rfl rfl rfl (by decide +kernel) ⟨Nat.le_of_ble_eq_true rfl, Nat.le_of_ble_eq_true rfl⟩) hK hP rfl hl.1 rfl (Nat.le_of_ble_eq_true rfl) ⟨Nat.zero_le _, Nat.zero_le _⟩ dX10_angriestJust_14 ?_
        refine lv_if_eq (tgt := 53) hx hb dX10_angriestJust_17 (by decide) (fun c17 => ?_) (fun c17 => ?_)
        ·
          have c17 := bI_0.mp c17
          refine lv_iinc (v := nI (k + 1)) (lv' := [(2, .int (nI (k + 1))), (1, .int (oI bo)), (0, .ref (b))]) hx hb dX10_angriestJust_53 hl (k := 0) rfl (nI_1 _) (by decide) rfl (fun ls hl => ?_)
          refine lv_goto (tgt := 4) hx hb dX10_angriestJust_56 (by decide) ?_
          exact ih (k + 1) bo (by omega) (by omega) (by rw [bestB_step (by omega)] at hR; first | (simpa [bstep, hq3, c9, c17] using hR) | (simpa [bstep, c9, c17] using hR) | (rw [← hR]; cases bo <;> simp [bstep, hq3, c9, c17]) | (rw [← hR]; cases bo <;> simp [bstep, c9, c17])) (by first | assumption | (intro j h; cases h; omega)) _ (lv_sub hl [0, 1, 2] rfl)
        ·
          have c17 := bI_n0.mp c17
          refine lv_aload_n hx hb dX10_angriestJust_20 rfl (lv_at hl 2 rfl) ?_
          refine lv_aload_n hx hb dX10_angriestJust_21 rfl (lv_at hl 2 rfl) ?_
          refine lv_iload_n hx hb dX10_angriestJust_22 rfl (lv_at hl 0 rfl) ?_
          refine rdS (As := [.ref (b), .int (nI k)]) (rest := [.ref (b)]) ⟨hx, hb, hml, hown, hts⟩ (c_X10_sortIn l D T b r k (by first | omega | assumption | decide)) (va_cwS 2 hts gX10_angriestJust_X10_sortIn rfl rfl rfl (by decide +kernel) ⟨Nat.le_of_ble_eq_true rfl, Nat.le_of_ble_eq_true rfl⟩) hK hP rfl hl.1 rfl (Nat.le_of_ble_eq_true rfl) ⟨Nat.zero_le _, Nat.zero_le _⟩ dX10_angriestJust_23 ?_
          obtain ⟨q, hq, hq2⟩ := hSo k (by omega)
          have hq3 : justR r C nt k = justB q (r 1) (r 2) (r 3) nt (r (9 + nt % C)) := by unfold justR; rw [hq2, nI_clamp (by omega)]
          refine endI (r := nI q) hq2 ?_
          refine lv_aload_n hx hb dX10_angriestJust_26 rfl (lv_at hl 2 rfl) ?_
          refine lv_iconst (v := 0) hx hb dX10_angriestJust_27 (by decide) ?_
          refine aldI hx hb hK hP 0 0 rfl rfl (0) rfl (by omega) (by decide) dX10_angriestJust_28 ?_
          refine endI (r := nI nt) (hn) ?_
          refine rdS (As := [.ref (b), .int (nI q), .int (nI nt)]) (rest := []) ⟨hx, hb, hml, hown, hts⟩ (c_X10_isJust l D T b r q nt C (by first | omega | assumption | decide) (by first | omega | assumption | decide) (by first | omega | assumption | decide) (by first | omega | assumption | decide) (by first | omega | assumption | decide)) (va_cwS 3 hts gX10_angriestJust_X10_isJust rfl rfl rfl (by decide +kernel) ⟨Nat.le_of_ble_eq_true rfl, Nat.le_of_ble_eq_true rfl⟩) hK hP rfl hl.1 rfl (Nat.le_of_ble_eq_true rfl) ⟨Nat.zero_le _, Nat.zero_le _⟩ dX10_angriestJust_29 ?_
          refine lv_if_ne (tgt := 38) hx hb dX10_angriestJust_32 (by decide) (fun c32 => ?_) (fun c32 => ?_)
          ·
            have c32 := bI_n0.mp c32
            refine lv_iload_n hx hb dX10_angriestJust_38 rfl (lv_at hl 1 rfl) ?_
            refine lv_if_lt (tgt := 51) hx hb dX10_angriestJust_39 (by decide) (fun c39 => ?_) (fun c39 => ?_)
            ·
              obtain rfl := (oI_lt (fun j h => by have := hb9 j h; omega)).mp c39
              have hl : lv_has ls 3 [(2, .int (nI k)), (1, .int (-1)), (0, .ref (b))] := hl
              refine lv_iload_n hx hb dX10_angriestJust_51 rfl (lv_at hl 0 rfl) ?_
              refine lv_istore_n (lv' := [(1, .int (nI k)), (2, .int (nI k)), (0, .ref (b))]) hx hb dX10_angriestJust_52 rfl hl (by decide) rfl (fun ls hl => ?_)
              refine lv_iinc (v := nI (k + 1)) (lv' := [(2, .int (nI (k + 1))), (1, .int (nI k)), (0, .ref (b))]) hx hb dX10_angriestJust_53 hl (k := 1) rfl (nI_1 _) (by decide) rfl (fun ls hl => ?_)
              refine lv_goto (tgt := 4) hx hb dX10_angriestJust_56 (by decide) ?_
              exact ih (k + 1) (some k) (by omega) (by omega) (by rw [bestB_step (by omega)] at hR; first | (simpa [bstep, hq3, c9, c17, c32, c39] using hR) | (simpa [bstep, c9, c17, c32, c39] using hR) | (rw [← hR]; cases bo <;> simp [bstep, hq3, c9, c17, c32, c39]) | (rw [← hR]; cases bo <;> simp [bstep, c9, c17, c32, c39])) (by first | assumption | (intro j h; cases h; omega)) _ (lv_sub hl [0, 1, 2] rfl)
            ·
              obtain ⟨j, rfl⟩ : ∃ j, bo = some j := by
                cases bo with
                | none => exact absurd (by decide) c39
                | some j => exact ⟨j, rfl⟩
              have hj9 := hb9 j rfl
              have hl : lv_has ls 3 [(2, .int (nI k)), (1, .int (nI j)), (0, .ref (b))] := hl
              refine lv_aload_n hx hb dX10_angriestJust_42 rfl (lv_at hl 2 rfl) ?_
              refine lv_iload_n hx hb dX10_angriestJust_43 rfl (lv_at hl 0 rfl) ?_
              refine lv_iload_n hx hb dX10_angriestJust_44 rfl (lv_at hl 1 rfl) ?_
              refine rdS (As := [.ref (b), .int (nI k), .int (nI j)]) (rest := []) ⟨hx, hb, hml, hown, hts⟩ (c_X10_isAngrier l D T b r k j (by first | omega | assumption | decide) (by first | omega | assumption | decide)) (va_cwS 3 hts gX10_angriestJust_X10_isAngrier rfl rfl rfl (by decide +kernel) ⟨Nat.le_of_ble_eq_true rfl, Nat.le_of_ble_eq_true rfl⟩) hK hP rfl hl.1 rfl (Nat.le_of_ble_eq_true rfl) ⟨Nat.zero_le _, Nat.zero_le _⟩ dX10_angriestJust_45 ?_
              refine lv_if_eq (tgt := 53) hx hb dX10_angriestJust_48 (by decide) (fun c48 => ?_) (fun c48 => ?_)
              ·
                have c48 := bI_0.mp c48
                refine lv_iinc (v := nI (k + 1)) (lv' := [(2, .int (nI (k + 1))), (1, .int (nI j)), (0, .ref (b))]) hx hb dX10_angriestJust_53 hl (k := 0) rfl (nI_1 _) (by decide) rfl (fun ls hl => ?_)
                refine lv_goto (tgt := 4) hx hb dX10_angriestJust_56 (by decide) ?_
                exact ih (k + 1) (some j) (by omega) (by omega) (by rw [bestB_step (by omega)] at hR; first | (simpa [bstep, hq3, c9, c17, c32, c39, c48] using hR) | (simpa [bstep, c9, c17, c32, c39, c48] using hR) | (rw [← hR]; cases bo <;> simp [bstep, hq3, c9, c17, c32, c39, c48]) | (rw [← hR]; cases bo <;> simp [bstep, c9, c17, c32, c39, c48])) (by first | assumption | (intro j h; cases h; omega)) _ (lv_sub hl [0, 1, 2] rfl)
              ·
                have c48 := bI_n0.mp c48
                refine lv_iload_n hx hb dX10_angriestJust_51 rfl (lv_at hl 0 rfl) ?_
                refine lv_istore_n (lv' := [(1, .int (nI k)), (2, .int (nI k)), (0, .ref (b))]) hx hb dX10_angriestJust_52 rfl hl (by decide) rfl (fun ls hl => ?_)
                refine lv_iinc (v := nI (k + 1)) (lv' := [(2, .int (nI (k + 1))), (1, .int (nI k)), (0, .ref (b))]) hx hb dX10_angriestJust_53 hl (k := 1) rfl (nI_1 _) (by decide) rfl (fun ls hl => ?_)
                refine lv_goto (tgt := 4) hx hb dX10_angriestJust_56 (by decide) ?_
                exact ih (k + 1) (some k) (by omega) (by omega) (by rw [bestB_step (by omega)] at hR; first | (simpa [bstep, hq3, c9, c17, c32, c39, c48] using hR) | (simpa [bstep, c9, c17, c32, c39, c48] using hR) | (rw [← hR]; cases bo <;> simp [bstep, hq3, c9, c17, c32, c39, c48]) | (rw [← hR]; cases bo <;> simp [bstep, c9, c17, c32, c39, c48])) (by first | assumption | (intro j h; cases h; omega)) _ (lv_sub hl [0, 1, 2] rfl)
          ·
            have c32 := bI_0.mp c32
            refine lv_goto (tgt := 53) hx hb dX10_angriestJust_35 (by decide) ?_
            refine lv_iinc (v := nI (k + 1)) (lv' := [(2, .int (nI (k + 1))), (1, .int (oI bo)), (0, .ref (b))]) hx hb dX10_angriestJust_53 hl (k := 0) rfl (nI_1 _) (by decide) rfl (fun ls hl => ?_)
            refine lv_goto (tgt := 4) hx hb dX10_angriestJust_56 (by decide) ?_
            exact ih (k + 1) bo (by omega) (by omega) (by rw [bestB_step (by omega)] at hR; first | (simpa [bstep, hq3, c9, c17, c32] using hR) | (simpa [bstep, c9, c17, c32] using hR) | (rw [← hR]; cases bo <;> simp [bstep, hq3, c9, c17, c32]) | (rw [← hR]; cases bo <;> simp [bstep, c9, c17, c32])) (by first | assumption | (intro j h; cases h; omega)) _ (lv_sub hl [0, 1, 2] rfl)
  exact L4 _ 0 none (Nat.lt_succ_self _) (by omega) (by rfl) (by intro j h; cases h) _ (lv_sub hl [0, 1, 2] rfl)

set_option maxHeartbeats 4000000 in
set_option maxRecDepth 100000 in
theorem c_X10_oldestOf (l : Launch) (D : va_G) (T : Nat → ClassId) (b : Nat) (r : Nat → Int32) (N : Nat) (hN : r 6 = nI N) (hN2 : N ≤ 24) : Met l yX10_oldestOf wsX10_oldestOf ({ frames := 3, cells := 0, slots := 0, locals := 64 } : Room) (va_Pc [.ref (b)] (PR D T ([(b, .inl (T 0, 202, .inl r))]))) (QcRead (oI (oldR r N))) 0 0 (fun _ => False) := by
  refine metR (cc := cX10_oldestOf) (maxL := 3) (ty := .int) (by decide) rfl (by rfl) (Nat.le_of_ble_eq_true rfl) ?_
  intro p e s m args below meth c Q ls hx hb hml hown hts hP hK hl hret
  have hown : s.vm.findClass RX10 = some m.cls := hown
  have hl : lv_has ls 3 [(0, .ref (b))] := hl
  refine lv_iconst (v := -1) hx hb dX10_oldestOf_0 (by decide) ?_
  refine lv_istore_n (lv' := [(1, .int (-1)), (0, .ref (b))]) hx hb dX10_oldestOf_1 rfl hl (by decide) rfl (fun ls hl => ?_)
  refine lv_iconst (v := 0) hx hb dX10_oldestOf_2 (by decide) ?_
  refine lv_istore_n (lv' := [(2, .int (0)), (1, .int (-1)), (0, .ref (b))]) hx hb dX10_oldestOf_3 rfl hl (by decide) rfl (fun ls hl => ?_)
  have L4 : ∀ (n9 : Nat) (k : Nat) (bo : Option Nat), (N - k) < n9 → (k ≤ N) → (bestB (fun k => decide (r (34 + 7 * k + 4) = 0)) (fun k j => decide (r (34 + 7 * k + 3) < r (34 + 7 * j + 3))) (N - k) k bo = oldR r N) → (∀ j, bo = some j → j < 24) → ∀ (ls : Array Slot), lv_has ls 3 [(2, .int (nI k)), (1, .int (oI bo)), (0, .ref (b))] → W p l e ({ frames := 3, cells := 0, slots := 0, locals := 64 } : Room) s m args below meth c s.heap [] 0 0 Q (F0 m 4 ls []) := by
    intro n9
    induction n9 with
    | zero => intro k bo hm9; exact absurd hm9 (Nat.not_lt_zero _)
    | succ n9 ih =>
      intro k bo hm9 hk9 hR hb9 ls hl
      refine lv_iload_n hx hb dX10_oldestOf_4 rfl (lv_at hl 0 rfl) ?_
      refine lv_aload_n hx hb dX10_oldestOf_5 rfl (lv_at hl 2 rfl) ?_
      refine lv_bipush (v := 6) hx hb dX10_oldestOf_6 (by decide) ?_
      refine aldI hx hb hK hP 0 0 rfl rfl (6) rfl (by omega) (by decide) dX10_oldestOf_8 ?_
      refine endI (r := nI N) (hN) ?_
      refine lv_icmp_ge (tgt := 44) hx hb dX10_oldestOf_9 (by decide) (fun c9 => ?_) (fun c9 => ?_)
      ·
        have c9 : N ≤ k := (nI_leI (a := N) (b := k) (by omega) (by omega)).mp c9
        refine lv_iload_n hx hb dX10_oldestOf_44 rfl (lv_at hl 1 rfl) ?_
        refine endI (r := oI (oldR r N)) (by rw [bestB_done (by omega)] at hR; rw [hR]) ?_
        exact hret ls _ dX10_oldestOf_45
      ·
        have c9 : ¬ N ≤ k := fun h9 => c9 ((nI_leI (a := N) (b := k) (by omega) (by omega)).mpr h9)
        refine lv_aload_n hx hb dX10_oldestOf_12 rfl (lv_at hl 2 rfl) ?_
        refine lv_iload_n hx hb dX10_oldestOf_13 rfl (lv_at hl 0 rfl) ?_
        refine rdS (As := [.ref (b), .int (nI k)]) (rest := []) ⟨hx, hb, hml, hown, hts⟩ (c_X10_waits l D T b r k (by first | omega | assumption | decide)) (va_cwS 2 hts gX10_oldestOf_X10_waits rfl rfl rfl (by decide +kernel) ⟨Nat.le_of_ble_eq_true rfl, Nat.le_of_ble_eq_true rfl⟩) hK hP rfl hl.1 rfl (Nat.le_of_ble_eq_true rfl) ⟨Nat.zero_le _, Nat.zero_le _⟩ dX10_oldestOf_14 ?_
        refine lv_if_ne (tgt := 23) hx hb dX10_oldestOf_17 (by decide) (fun c17 => ?_) (fun c17 => ?_)
        ·
          have c17 := bI_n0.mp c17
          refine lv_iload_n hx hb dX10_oldestOf_23 rfl (lv_at hl 1 rfl) ?_
          refine lv_if_lt (tgt := 36) hx hb dX10_oldestOf_24 (by decide) (fun c24 => ?_) (fun c24 => ?_)
          ·
            obtain rfl := (oI_lt (fun j h => by have := hb9 j h; omega)).mp c24
            have hl : lv_has ls 3 [(2, .int (nI k)), (1, .int (-1)), (0, .ref (b))] := hl
            refine lv_iload_n hx hb dX10_oldestOf_36 rfl (lv_at hl 0 rfl) ?_
            refine lv_istore_n (lv' := [(1, .int (nI k)), (2, .int (nI k)), (0, .ref (b))]) hx hb dX10_oldestOf_37 rfl hl (by decide) rfl (fun ls hl => ?_)
            refine lv_iinc (v := nI (k + 1)) (lv' := [(2, .int (nI (k + 1))), (1, .int (nI k)), (0, .ref (b))]) hx hb dX10_oldestOf_38 hl (k := 1) rfl (nI_1 _) (by decide) rfl (fun ls hl => ?_)
            refine lv_goto (tgt := 4) hx hb dX10_oldestOf_41 (by decide) ?_
            exact ih (k + 1) (some k) (by omega) (by omega) (by rw [bestB_step (by omega)] at hR; first | (simpa [bstep, c9, c17, c24] using hR) | (rw [← hR]; cases bo <;> simp [bstep, c9, c17, c24])) (by first | assumption | (intro j h; cases h; omega)) _ (lv_sub hl [0, 1, 2] rfl)
          ·
            obtain ⟨j, rfl⟩ : ∃ j, bo = some j := by
              cases bo with
              | none => exact absurd (by decide) c24
              | some j => exact ⟨j, rfl⟩
            have hj9 := hb9 j rfl
            have hl : lv_has ls 3 [(2, .int (nI k)), (1, .int (nI j)), (0, .ref (b))] := hl
            refine lv_aload_n hx hb dX10_oldestOf_27 rfl (lv_at hl 2 rfl) ?_
            refine lv_iload_n hx hb dX10_oldestOf_28 rfl (lv_at hl 0 rfl) ?_
            refine lv_iload_n hx hb dX10_oldestOf_29 rfl (lv_at hl 1 rfl) ?_
            refine rdS (As := [.ref (b), .int (nI k), .int (nI j)]) (rest := []) ⟨hx, hb, hml, hown, hts⟩ (c_X10_isOlder l D T b r k j (by first | omega | assumption | decide) (by first | omega | assumption | decide)) (va_cwS 3 hts gX10_oldestOf_X10_isOlder rfl rfl rfl (by decide +kernel) ⟨Nat.le_of_ble_eq_true rfl, Nat.le_of_ble_eq_true rfl⟩) hK hP rfl hl.1 rfl (Nat.le_of_ble_eq_true rfl) ⟨Nat.zero_le _, Nat.zero_le _⟩ dX10_oldestOf_30 ?_
            refine lv_if_eq (tgt := 38) hx hb dX10_oldestOf_33 (by decide) (fun c33 => ?_) (fun c33 => ?_)
            ·
              have c33 := bI_0.mp c33
              refine lv_iinc (v := nI (k + 1)) (lv' := [(2, .int (nI (k + 1))), (1, .int (nI j)), (0, .ref (b))]) hx hb dX10_oldestOf_38 hl (k := 0) rfl (nI_1 _) (by decide) rfl (fun ls hl => ?_)
              refine lv_goto (tgt := 4) hx hb dX10_oldestOf_41 (by decide) ?_
              exact ih (k + 1) (some j) (by omega) (by omega) (by rw [bestB_step (by omega)] at hR; first | (simpa [bstep, c9, c17, c24, c33] using hR) | (rw [← hR]; cases bo <;> simp [bstep, c9, c17, c24, c33])) (by first | assumption | (intro j h; cases h; omega)) _ (lv_sub hl [0, 1, 2] rfl)
            ·
              have c33 := bI_n0.mp c33
              refine lv_iload_n hx hb dX10_oldestOf_36 rfl (lv_at hl 0 rfl) ?_
              refine lv_istore_n (lv' := [(1, .int (nI k)), (2, .int (nI k)), (0, .ref (b))]) hx hb dX10_oldestOf_37 rfl hl (by decide) rfl (fun ls hl => ?_)
              refine lv_iinc (v := nI (k + 1)) (lv' := [(2, .int (nI (k + 1))), (1, .int (nI k)), (0, .ref (b))]) hx hb dX10_oldestOf_38 hl (k := 1) rfl (nI_1 _) (by decide) rfl (fun ls hl => ?_)
              refine lv_goto (tgt := 4) hx hb dX10_oldestOf_41 (by decide) ?_
              exact ih (k + 1) (some k) (by omega) (by omega) (by rw [bestB_step (by omega)] at hR; first | (simpa [bstep, c9, c17, c24, c33] using hR) | (rw [← hR]; cases bo <;> simp [bstep, c9, c17, c24, c33])) (by first | assumption | (intro j h; cases h; omega)) _ (lv_sub hl [0, 1, 2] rfl)
        ·
          have c17 := bI_0.mp c17
          refine lv_goto (tgt := 38) hx hb dX10_oldestOf_20 (by decide) ?_
          refine lv_iinc (v := nI (k + 1)) (lv' := [(2, .int (nI (k + 1))), (1, .int (oI bo)), (0, .ref (b))]) hx hb dX10_oldestOf_38 hl (k := 0) rfl (nI_1 _) (by decide) rfl (fun ls hl => ?_)
          refine lv_goto (tgt := 4) hx hb dX10_oldestOf_41 (by decide) ?_
          exact ih (k + 1) bo (by omega) (by omega) (by rw [bestB_step (by omega)] at hR; first | (simpa [bstep, c9, c17] using hR) | (rw [← hR]; cases bo <;> simp [bstep, c9, c17])) (by first | assumption | (intro j h; cases h; omega)) _ (lv_sub hl [0, 1, 2] rfl)
  exact L4 _ 0 none (Nat.lt_succ_self _) (by omega) (by rfl) (by intro j h; cases h) _ (lv_sub hl [0, 1, 2] rfl)

set_option maxHeartbeats 4000000 in
set_option maxRecDepth 100000 in
theorem c_X10_closes (l : Launch) (D : va_G) (T : Nat → ClassId) (b : Nat) (r : Nat → Int32) (k : Nat) (z : Int32) (z1 : Int32) (hj : k < 24) (sz : Nat) : Met l yX10_closes wsX10_closes ({ frames := 1, cells := 0, slots := 0, locals := 21 } : Room) (va_Pc [.ref (b), .int (nI k), .int (z), .int (z1)] (PS D T ([(b, .inl (T 0, 202, .inl r))]) sz)) (va_Qv (fun (_ : Unit) => True) (fun _ t => QS D T (va_A ([(b, .inl (T 0, 202, .inl r))]) sz) ([(b, .inl (T 0, 202, .inl (rCloses r k z z1)))]) t) (va_A ([(b, .inl (T 0, 202, .inl r))]) sz)) 0 0 (va_A ([(b, .inl (T 0, 202, .inl r))]) sz) := by
  refine metSv (cc := cX10_closes) (maxL := 4) (by decide) rfl (Nat.le_of_ble_eq_true rfl) ?_
  intro p e s m args below meth c Q ls A hx hb hml hown hts hP hK hD hA hS hl hret
  have hown : s.vm.findClass RX10 = some m.cls := hown
  have hl : lv_has ls 4 [(0, .ref (b)), (1, .int (nI k)), (2, .int (z)), (3, .int (z1))] := hl
  refine lv_aload_n hx hb dX10_closes_0 rfl (lv_at hl 0 rfl) ?_
  refine lv_iload_n hx hb dX10_closes_1 rfl (lv_at hl 1 rfl) ?_
  refine lv_iconst (v := 4) hx hb dX10_closes_2 (by decide) ?_
  refine rdT (As := [.int (nI k), .int (4)]) (rest := [.ref (b)]) ⟨hx, hb, hml, hown, hts⟩ (c_X10_complaintAt l D T k 4 ) (va_cwS 2 hts gX10_closes_X10_complaintAt rfl rfl rfl (by decide +kernel) ⟨Nat.le_of_ble_eq_true rfl, Nat.le_of_ble_eq_true rfl⟩) rfl hl.1 rfl (Nat.le_of_ble_eq_true rfl) ⟨Nat.zero_le _, Nat.zero_le _⟩ dX10_closes_3 ?_
  refine lv_iload_n hx hb dX10_closes_6 rfl (lv_at hl 2 rfl) ?_
  refine astI hx hb hK hP hD hS 0 0 rfl rfl (34 + 7 * k + 4) rfl (by omega) (by decide) dX10_closes_7 (fun H locs hP hD hS => ?_)
  have hP : va_P D vwCl ([(b, .inl (T 0, 202, .inl (va_up r (34 + 7 * k + 4) z)))]) H := hP
  have hD : va_D A ([(b, .inl (T 0, 202, .inl (va_up r (34 + 7 * k + 4) z)))]) := hD
  refine lv_aload_n hx hb dX10_closes_8 rfl (lv_at hl 0 rfl) ?_
  refine lv_iload_n hx hb dX10_closes_9 rfl (lv_at hl 1 rfl) ?_
  refine lv_iconst (v := 5) hx hb dX10_closes_10 (by decide) ?_
  refine rdT (As := [.int (nI k), .int (5)]) (rest := [.ref (b)]) ⟨hx, hb, hml, hown, hts⟩ (c_X10_complaintAt l D T k 5 ) (va_cwS 2 hts gX10_closes_X10_complaintAt rfl rfl rfl (by decide +kernel) ⟨Nat.le_of_ble_eq_true rfl, Nat.le_of_ble_eq_true rfl⟩) rfl hl.1 rfl (Nat.le_of_ble_eq_true rfl) ⟨Nat.zero_le _, Nat.zero_le _⟩ dX10_closes_11 ?_
  refine lv_aload_n hx hb dX10_closes_14 rfl (lv_at hl 0 rfl) ?_
  refine lv_iconst (v := 0) hx hb dX10_closes_15 (by decide) ?_
  refine aldI hx hb hK hP 0 0 rfl rfl (0) rfl (by omega) (by decide) dX10_closes_16 ?_
  refine astI hx hb hK hP hD hS 0 0 rfl rfl (34 + 7 * k + 5) rfl (by omega) (by decide) dX10_closes_17 (fun H locs hP hD hS => ?_)
  have hP : va_P D vwCl ([(b, .inl (T 0, 202, .inl (va_up (va_up r (34 + 7 * k + 4) z) (34 + 7 * k + 5) ((va_up r (34 + 7 * k + 4) z) 0))))]) H := hP
  have hD : va_D A ([(b, .inl (T 0, 202, .inl (va_up (va_up r (34 + 7 * k + 4) z) (34 + 7 * k + 5) ((va_up r (34 + 7 * k + 4) z) 0))))]) := hD
  refine lv_aload_n hx hb dX10_closes_18 rfl (lv_at hl 0 rfl) ?_
  refine lv_iload_n hx hb dX10_closes_19 rfl (lv_at hl 1 rfl) ?_
  refine lv_bipush (v := 6) hx hb dX10_closes_20 (by decide) ?_
  refine rdT (As := [.int (nI k), .int (6)]) (rest := [.ref (b)]) ⟨hx, hb, hml, hown, hts⟩ (c_X10_complaintAt l D T k 6 ) (va_cwS 2 hts gX10_closes_X10_complaintAt rfl rfl rfl (by decide +kernel) ⟨Nat.le_of_ble_eq_true rfl, Nat.le_of_ble_eq_true rfl⟩) rfl hl.1 rfl (Nat.le_of_ble_eq_true rfl) ⟨Nat.zero_le _, Nat.zero_le _⟩ dX10_closes_22 ?_
  refine lv_iload_n hx hb dX10_closes_25 rfl (lv_at hl 3 rfl) ?_
  refine astI hx hb hK hP hD hS 0 0 rfl rfl (34 + 7 * k + 6) rfl (by omega) (by decide) dX10_closes_26 (fun H locs hP hD hS => ?_)
  have hP : va_P D vwCl ([(b, .inl (T 0, 202, .inl (va_up (va_up (va_up r (34 + 7 * k + 4) z) (34 + 7 * k + 5) ((va_up r (34 + 7 * k + 4) z) 0)) (34 + 7 * k + 6) z1)))]) H := hP
  have hD : va_D A ([(b, .inl (T 0, 202, .inl (va_up (va_up (va_up r (34 + 7 * k + 4) z) (34 + 7 * k + 5) ((va_up r (34 + 7 * k + 4) z) 0)) (34 + 7 * k + 6) z1)))]) := hD
  have hE : va_up (va_up (va_up r (34 + 7 * k + 4) z) (34 + 7 * k + 5) ((va_up r (34 + 7 * k + 4) z) 0)) (34 + 7 * k + 6) z1 = rCloses r k z z1 := by rfl
  exact hret _ _ _ _ dX10_closes_27 (by rw [← hE]; exact hP) (by rw [← hE]; exact hD) hS

set_option maxHeartbeats 4000000 in
set_option maxRecDepth 100000 in
theorem c_X10_handles (l : Launch) (D : va_G) (T : Nat → ClassId) (b : Nat) (r : Nat → Int32) (j : Nat) (N : Nat) (C : Nat) (nt : Nat) (hN : r 6 = nI N) (hN2 : N ≤ 24) (hC : r 4 = nI C) (hC1 : 0 < C) (hC2 : C ≤ 10) (hn : r 0 = nI nt) (hnt : nt < 2 ^ 20) (hSo : ∀ k, k < N → ∃ q, q < 4 ∧ r (34 + 7 * k + 1) = nI q) (hj : j < 5) (sz : Nat) : Met l yX10_handles wsX10_handles ({ frames := 5, cells := 0, slots := 0, locals := 106 } : Room) (va_Pc [.ref (b), .int (nI j)] (PS D T ([(b, .inl (T 0, 202, .inl r))]) sz)) (va_Qi (fun r9 (_ : Unit) => r9 = (bI (rHandles N C nt r j).1)) (fun _ t => QS D T (va_A ([(b, .inl (T 0, 202, .inl r))]) sz) ([(b, .inl (T 0, 202, .inl ((rHandles N C nt r j).2)))]) t) (va_A ([(b, .inl (T 0, 202, .inl r))]) sz)) 0 0 (va_A ([(b, .inl (T 0, 202, .inl r))]) sz) := by
  refine metSi (cc := cX10_handles) (maxL := 3) (ty := .boolean) (by decide) rfl (by exact bI_nb _) (Nat.le_of_ble_eq_true rfl) ?_
  intro p e s m args below meth c Q ls A hx hb hml hown hts hP hK hD hA hS hl hret
  have hown : s.vm.findClass RX10 = some m.cls := hown
  have hl : lv_has ls 3 [(0, .ref (b)), (1, .int (nI j))] := hl
  refine lv_aload_n hx hb dX10_handles_0 rfl (lv_at hl 0 rfl) ?_
  refine rdS (As := [.ref (b)]) (rest := []) ⟨hx, hb, hml, hown, hts⟩ (c_X10_angriestJust l D T b r N C nt hN hN2 hC hC1 hC2 hn hnt hSo) (va_cwS 1 hts gX10_handles_X10_angriestJust rfl rfl rfl (by decide +kernel) ⟨Nat.le_of_ble_eq_true rfl, Nat.le_of_ble_eq_true rfl⟩) hK hP rfl hl.1 rfl (Nat.le_of_ble_eq_true rfl) ⟨Nat.zero_le _, Nat.zero_le _⟩ dX10_handles_1 ?_
  refine lv_istore_n (lv' := [(2, .int (oI (angR r N C nt))), (0, .ref (b)), (1, .int (nI j))]) hx hb dX10_handles_4 rfl hl (by decide) rfl (fun ls hl => ?_)
  refine lv_iload_n hx hb dX10_handles_5 rfl (lv_at hl 0 rfl) ?_
  refine lv_if_lt (tgt := 41) hx hb dX10_handles_6 (by decide) (fun c6 => ?_) (fun c6 => ?_)
  ·
    have c6 := (oI_lt (fun j h => by have := (angR_lt h).1; omega)).mp c6
    refine lv_aload_n hx hb dX10_handles_41 rfl (lv_at hl 1 rfl) ?_
    refine rdS (As := [.ref (b)]) (rest := []) ⟨hx, hb, hml, hown, hts⟩ (c_X10_oldestOf l D T b r N (by first | omega | assumption | decide) (by first | omega | assumption | decide)) (va_cwS 1 hts gX10_handles_X10_oldestOf rfl rfl rfl (by decide +kernel) ⟨Nat.le_of_ble_eq_true rfl, Nat.le_of_ble_eq_true rfl⟩) hK hP rfl hl.1 rfl (Nat.le_of_ble_eq_true rfl) ⟨Nat.zero_le _, Nat.zero_le _⟩ dX10_handles_42 ?_
    refine lv_istore_n (lv' := [(2, .int (oI (oldR r N))), (0, .ref (b)), (1, .int (nI j))]) hx hb dX10_handles_45 rfl hl (by decide) rfl (fun ls hl => ?_)
    refine lv_iload_n hx hb dX10_handles_46 rfl (lv_at hl 0 rfl) ?_
    refine lv_if_ge (tgt := 52) hx hb dX10_handles_47 (by decide) (fun c47 => ?_) (fun c47 => ?_)
    ·
      obtain ⟨q, hq⟩ : ∃ q, oldR r N = some q := by
        cases h : oldR r N with
        | none => rw [h] at c47; exact absurd c47 (by decide)
        | some q => exact ⟨q, rfl⟩
      have ql := (oldR_lt hq).1
      rw [hq] at hl
      have hl : lv_has ls 3 [(2, .int (nI q)), (0, .ref (b)), (1, .int (nI j))] := hl
      refine lv_aload_n hx hb dX10_handles_52 rfl (lv_at hl 1 rfl) ?_
      refine lv_iload_n hx hb dX10_handles_53 rfl (lv_at hl 0 rfl) ?_
      refine rdS (As := [.ref (b), .int (nI q)]) (rest := []) ⟨hx, hb, hml, hown, hts⟩ (c_X10_isOld l D T b r q (by first | omega | assumption | decide)) (va_cwS 2 hts gX10_handles_X10_isOld rfl rfl rfl (by decide +kernel) ⟨Nat.le_of_ble_eq_true rfl, Nat.le_of_ble_eq_true rfl⟩) hK hP rfl hl.1 rfl (Nat.le_of_ble_eq_true rfl) ⟨Nat.zero_le _, Nat.zero_le _⟩ dX10_handles_54 ?_
      refine lv_if_ne (tgt := 62) hx hb dX10_handles_57 (by decide) (fun c57 => ?_) (fun c57 => ?_)
      ·
        have c57 := bI_n0.mp c57
        refine lv_aload_n hx hb dX10_handles_62 rfl (lv_at hl 1 rfl) ?_
        refine lv_iload_n hx hb dX10_handles_63 rfl (lv_at hl 0 rfl) ?_
        refine lv_iconst (v := 2) hx hb dX10_handles_64 (by decide) ?_
        refine lv_iload_n hx hb dX10_handles_65 rfl (lv_at hl 2 rfl) ?_
        refine wrSv (As := [.ref (b), .int (nI q), .int (2), .int (nI j)]) (rest := []) ⟨hx, hb, hml, hown, hts⟩ (c_X10_closes l D T b r q 2 (nI j) (by first | omega | assumption | decide) _) (va_cwS 4 hts gX10_handles_X10_closes rfl rfl rfl (by decide +kernel) ⟨Nat.le_of_ble_eq_true rfl, Nat.le_of_ble_eq_true rfl⟩) (Foc.rfl _ _) hK hP hD hS hA rfl hl.1 rfl (Nat.le_of_ble_eq_true rfl) ⟨Nat.zero_le _, Nat.zero_le _⟩ dX10_handles_66 (fun H locs hP hD hS => ?_)
        have hP : va_P D vwCl ([(b, .inl (T 0, 202, .inl (rCloses r q 2 (nI j))))]) H := hP
        have hD : va_D A ([(b, .inl (T 0, 202, .inl (rCloses r q 2 (nI j))))]) := hD
        refine lv_iconst (v := 1) hx hb dX10_handles_69 (by decide) ?_
        refine endI (r := bI (rHandles N C nt r j).1) (by first | (rw [rHandles_some hq]; rfl) | (rw [rHandles_none c6 c47]; rfl) | (rw [rHandles_young c6 hq (by simpa using c57)]; rfl) | (rw [rHandles_old c6 hq (by simpa using c57)]; rfl)) ?_
        have hE : rCloses r q 2 (nI j) = (rHandles N C nt r j).2 := by first | (rw [rHandles_some hq]; rfl) | (rw [rHandles_none c6 c47]) | (rw [rHandles_young c6 hq (by simpa using c57)]) | (rw [rHandles_old c6 hq (by simpa using c57)])
        exact hret _ _ _ _ dX10_handles_70 (by rw [← hE]; exact hP) (by rw [← hE]; exact hD) hS
      ·
        have c57 := bI_0.mp c57
        refine lv_iconst (v := 0) hx hb dX10_handles_60 (by decide) ?_
        refine endI (r := bI (rHandles N C nt r j).1) (by first | (rw [rHandles_some hq]; rfl) | (rw [rHandles_none c6 c47]; rfl) | (rw [rHandles_young c6 hq (by simpa using c57)]; rfl) | (rw [rHandles_old c6 hq (by simpa using c57)]; rfl)) ?_
        have hE : r = (rHandles N C nt r j).2 := by first | (rw [rHandles_some hq]; rfl) | (rw [rHandles_none c6 c47]) | (rw [rHandles_young c6 hq (by simpa using c57)]) | (rw [rHandles_old c6 hq (by simpa using c57)])
        exact hret _ _ _ _ dX10_handles_61 (by rw [← hE]; exact hP) (by rw [← hE]; exact hD) hS
    ·
      have c47 := (oI_lt (fun j h => by have := (oldR_lt h).1; omega)).mp (Int32.not_le.mp c47)
      refine lv_iconst (v := 0) hx hb dX10_handles_50 (by decide) ?_
      refine endI (r := bI (rHandles N C nt r j).1) (by first | (rw [rHandles_some hq]; rfl) | (rw [rHandles_none c6 c47]; rfl) | (rw [rHandles_young c6 hq (by simpa using c57)]; rfl) | (rw [rHandles_old c6 hq (by simpa using c57)]; rfl)) ?_
      have hE : r = (rHandles N C nt r j).2 := by first | (rw [rHandles_some hq]; rfl) | (rw [rHandles_none c6 c47]) | (rw [rHandles_young c6 hq (by simpa using c57)]) | (rw [rHandles_old c6 hq (by simpa using c57)])
      exact hret _ _ _ _ dX10_handles_51 (by rw [← hE]; exact hP) (by rw [← hE]; exact hD) hS
  ·
    obtain ⟨q, hq⟩ : ∃ q, angR r N C nt = some q := by
      cases h : angR r N C nt with
      | none => rw [h] at c6; exact absurd (by decide) c6
      | some q => exact ⟨q, rfl⟩
    have ql := (angR_lt hq).1
    rw [hq] at hl
    have hl : lv_has ls 3 [(2, .int (nI q)), (0, .ref (b)), (1, .int (nI j))] := hl
    refine lv_aload_n hx hb dX10_handles_9 rfl (lv_at hl 1 rfl) ?_
    refine lv_iload_n hx hb dX10_handles_10 rfl (lv_at hl 0 rfl) ?_
    refine lv_iconst (v := 1) hx hb dX10_handles_11 (by decide) ?_
    refine lv_iload_n hx hb dX10_handles_12 rfl (lv_at hl 2 rfl) ?_
    refine wrSv (As := [.ref (b), .int (nI q), .int (1), .int (nI j)]) (rest := []) ⟨hx, hb, hml, hown, hts⟩ (c_X10_closes l D T b r q 1 (nI j) (by first | omega | assumption | decide) _) (va_cwS 4 hts gX10_handles_X10_closes rfl rfl rfl (by decide +kernel) ⟨Nat.le_of_ble_eq_true rfl, Nat.le_of_ble_eq_true rfl⟩) (Foc.rfl _ _) hK hP hD hS hA rfl hl.1 rfl (Nat.le_of_ble_eq_true rfl) ⟨Nat.zero_le _, Nat.zero_le _⟩ dX10_handles_13 (fun H locs hP hD hS => ?_)
    have hP : va_P D vwCl ([(b, .inl (T 0, 202, .inl (rCloses r q 1 (nI j))))]) H := hP
    have hD : va_D A ([(b, .inl (T 0, 202, .inl (rCloses r q 1 (nI j))))]) := hD
    refine lv_aload_n hx hb dX10_handles_16 rfl (lv_at hl 1 rfl) ?_
    refine lv_iload_n hx hb dX10_handles_17 rfl (lv_at hl 2 rfl) ?_
    refine lv_iconst (v := 2) hx hb dX10_handles_18 (by decide) ?_
    refine rdT (As := [.int (nI j), .int (2)]) (rest := [.ref (b)]) ⟨hx, hb, hml, hown, hts⟩ (c_X10_clerkAt l D T j 2 ) (va_cwS 2 hts gX10_handles_X10_clerkAt rfl rfl rfl (by decide +kernel) ⟨Nat.le_of_ble_eq_true rfl, Nat.le_of_ble_eq_true rfl⟩) rfl hl.1 rfl (Nat.le_of_ble_eq_true rfl) ⟨Nat.zero_le _, Nat.zero_le _⟩ dX10_handles_19 ?_
    refine lv_dup2_11 hx hb dX10_handles_22 rfl rfl ?_
    refine aldI hx hb hK hP 0 0 rfl rfl (19 + 3 * j + 2) rfl (by omega) (by decide) dX10_handles_23 ?_
    refine lv_iconst (v := 1) hx hb dX10_handles_24 (by decide) ?_
    refine lv_iadd hx hb dX10_handles_25 ?_
    refine astI hx hb hK hP hD hS 0 0 rfl rfl (19 + 3 * j + 2) rfl (by omega) (by decide) dX10_handles_26 (fun H locs hP hD hS => ?_)
    have hP : va_P D vwCl ([(b, .inl (T 0, 202, .inl (va_up (rCloses r q 1 (nI j)) (19 + 3 * j + 2) (((rCloses r q 1 (nI j)) (19 + 3 * j + 2)) + 1))))]) H := hP
    have hD : va_D A ([(b, .inl (T 0, 202, .inl (va_up (rCloses r q 1 (nI j)) (19 + 3 * j + 2) (((rCloses r q 1 (nI j)) (19 + 3 * j + 2)) + 1))))]) := hD
    refine lv_aload_n hx hb dX10_handles_27 rfl (lv_at hl 1 rfl) ?_
    refine lv_bipush (v := 8) hx hb dX10_handles_28 (by decide) ?_
    refine lv_dup2_11 hx hb dX10_handles_30 rfl rfl ?_
    refine aldI hx hb hK hP 0 0 rfl rfl (8) rfl (by omega) (by decide) dX10_handles_31 ?_
    refine lv_aload_n hx hb dX10_handles_32 rfl (lv_at hl 1 rfl) ?_
    refine lv_iload_n hx hb dX10_handles_33 rfl (lv_at hl 0 rfl) ?_
    refine rdS (As := [.ref (b), .int (nI q)]) (rest := [.int ((va_up (rCloses r q 1 (nI j)) (19 + 3 * j + 2) (((rCloses r q 1 (nI j)) (19 + 3 * j + 2)) + 1)) 8), .int (8), .ref (b)]) ⟨hx, hb, hml, hown, hts⟩ (c_X10_angerIn l D T b (va_up (rCloses r q 1 (nI j)) (19 + 3 * j + 2) (((rCloses r q 1 (nI j)) (19 + 3 * j + 2)) + 1)) q (by first | omega | assumption | decide)) (va_cwS 2 hts gX10_handles_X10_angerIn rfl rfl rfl (by decide +kernel) ⟨Nat.le_of_ble_eq_true rfl, Nat.le_of_ble_eq_true rfl⟩) hK hP rfl hl.1 rfl (Nat.le_of_ble_eq_true rfl) ⟨Nat.zero_le _, Nat.zero_le _⟩ dX10_handles_34 ?_
    refine lv_iadd hx hb dX10_handles_37 ?_
    refine astI hx hb hK hP hD hS 0 0 rfl rfl (8) rfl (by omega) (by decide) dX10_handles_38 (fun H locs hP hD hS => ?_)
    have hP : va_P D vwCl ([(b, .inl (T 0, 202, .inl (va_up (va_up (rCloses r q 1 (nI j)) (19 + 3 * j + 2) (((rCloses r q 1 (nI j)) (19 + 3 * j + 2)) + 1)) 8 (((va_up (rCloses r q 1 (nI j)) (19 + 3 * j + 2) (((rCloses r q 1 (nI j)) (19 + 3 * j + 2)) + 1)) 8) + ((va_up (rCloses r q 1 (nI j)) (19 + 3 * j + 2) (((rCloses r q 1 (nI j)) (19 + 3 * j + 2)) + 1)) (34 + 7 * q + 2))))))]) H := hP
    have hD : va_D A ([(b, .inl (T 0, 202, .inl (va_up (va_up (rCloses r q 1 (nI j)) (19 + 3 * j + 2) (((rCloses r q 1 (nI j)) (19 + 3 * j + 2)) + 1)) 8 (((va_up (rCloses r q 1 (nI j)) (19 + 3 * j + 2) (((rCloses r q 1 (nI j)) (19 + 3 * j + 2)) + 1)) 8) + ((va_up (rCloses r q 1 (nI j)) (19 + 3 * j + 2) (((rCloses r q 1 (nI j)) (19 + 3 * j + 2)) + 1)) (34 + 7 * q + 2))))))]) := hD
    refine lv_iconst (v := 1) hx hb dX10_handles_39 (by decide) ?_
    refine endI (r := bI (rHandles N C nt r j).1) (by first | (rw [rHandles_some hq]; rfl) | (rw [rHandles_none c6 c47]; rfl) | (rw [rHandles_young c6 hq (by simpa using c57)]; rfl) | (rw [rHandles_old c6 hq (by simpa using c57)]; rfl)) ?_
    have hE : va_up (va_up (rCloses r q 1 (nI j)) (19 + 3 * j + 2) (((rCloses r q 1 (nI j)) (19 + 3 * j + 2)) + 1)) 8 (((va_up (rCloses r q 1 (nI j)) (19 + 3 * j + 2) (((rCloses r q 1 (nI j)) (19 + 3 * j + 2)) + 1)) 8) + ((va_up (rCloses r q 1 (nI j)) (19 + 3 * j + 2) (((rCloses r q 1 (nI j)) (19 + 3 * j + 2)) + 1)) (34 + 7 * q + 2))) = (rHandles N C nt r j).2 := by first | (rw [rHandles_some hq]; rfl) | (rw [rHandles_none c6 c47]) | (rw [rHandles_young c6 hq (by simpa using c57)]) | (rw [rHandles_old c6 hq (by simpa using c57)])
    exact hret _ _ _ _ dX10_handles_40 (by rw [← hE]; exact hP) (by rw [← hE]; exact hD) hS
