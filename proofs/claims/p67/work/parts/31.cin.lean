set_option maxHeartbeats 4000000 in
set_option maxRecDepth 100000 in
theorem c_X1_put (l : Launch) (D : va_G) (T : Nat → ClassId) (v : Nat → Nat) (B : Nat → Nat → Nat) (O : Nat → Nat → Nat → Int32) (g : CSt) (ln un nx pl : Nat) (f0 f1 f2 : Nat → Int32) (z : Int32) (hL6 : ln < 600) (sz : Nat) : Met l yX1_put wsX1_put ({ frames := 0, cells := 0, slots := 0, locals := 0 } : Room) (va_Pc [.ref (v 2), .int (z)] (PS D T (WIN T v B O g ln un nx pl f0 f1 f2) sz)) (va_Qv (fun (_ : Unit) => True) (fun _ t => QS D T (va_A (WIN T v B O g ln un nx pl f0 f1 f2) sz) (WIN T v B O g (ln + 1) un nx pl (va_up f0 ln (z &&& 255)) f1 f2) t) (va_A (WIN T v B O g ln un nx pl f0 f1 f2) sz)) 0 0 (va_A (WIN T v B O g ln un nx pl f0 f1 f2) sz) := by
  refine metSv (cc := cX1_put) (maxL := 2) (by decide) rfl (Nat.le_of_ble_eq_true rfl) ?_
  intro p e s m args below meth c Q ls A hx hb hml hown hts hP hK hD hA hS hl hret
  have hown : s.vm.findClass RX1 = some m.cls := hown
  have hl : lv_has ls 2 [(0, .ref (v 2)), (1, .int (z))] := hl
  have i1 : ∀ w ∈ wsX10, w ∈ wsX1_put := by decide +kernel
  have w1 := hts (Cond.fieldLink RX1 15 "MoonComplaintWindow$Input" "length" "I") (List.mem_of_getElem? (i := 1) rfl)
  have w2 := hts (Cond.fieldLink RX1 9 "MoonComplaintWindow$Input" "bytes" "[I") (List.mem_of_getElem? (i := 2) rfl)
  refine lv_aload_n hx hb dX1_put_0 rfl (lv_at hl 0 rfl) ?_
  refine va_get (D := D) (ci := 1) (v := .int (nI ln)) (C := RX1) (T := TX1) (N := 5) hx hb hts i1 hown hK hP 2 rfl rfl 0 (by decide) w1 (fun _ h9 => h9) rfl dX1_put_1 ?_
  refine lv_sipush (v := 600) hx hb dX1_put_4 (by decide) ?_
  refine lv_icmp_ge (tgt := 34) hx hb dX1_put_7 (by decide) (fun c7 => ?_) (fun c7 => ?_)
  ·
    have c7 : 600 ≤ ln := (nI_leI (a := 600) (b := ln) (by omega) (by omega)).mp c7
    exact absurd c7 (by omega)
  ·
    have c7 : ¬ 600 ≤ ln := fun h9 => c7 ((nI_leI (a := 600) (b := ln) (by omega) (by omega)).mpr h9)
    refine lv_aload_n hx hb dX1_put_10 rfl (lv_at hl 0 rfl) ?_
    refine va_get (D := D) (ci := 1) (v := .ref (v 3)) (C := RX1) (T := TX1) (N := 5) hx hb hts i1 hown hK hP 2 rfl rfl 4 (by decide) w2 (fun _ h9 => h9) rfl dX1_put_11 ?_
    refine lv_aload_n hx hb dX1_put_14 rfl (lv_at hl 0 rfl) ?_
    refine va_get (D := D) (ci := 1) (v := .int (nI ln)) (C := RX1) (T := TX1) (N := 5) hx hb hts i1 hown hK hP 2 rfl rfl 0 (by decide) w1 (fun _ h9 => h9) rfl dX1_put_15 ?_
    refine lv_iload_n hx hb dX1_put_18 rfl (lv_at hl 1 rfl) ?_
    refine lv_sipush (v := 255) hx hb dX1_put_19 (by decide) ?_
    refine lv_iand hx hb dX1_put_22 ?_
    refine astI hx hb hK hP hD hS 3 0 rfl rfl (ln) rfl (by omega) (by decide) dX1_put_23 (fun H locs hP hD hS => ?_)
    have hP : va_P D vwCl (WIN T v B O g ln un nx pl (va_up f0 ln (z &&& 255)) f1 f2) H := hP
    have hD : va_D A (WIN T v B O g ln un nx pl (va_up f0 ln (z &&& 255)) f1 f2) := hD
    refine lv_aload_n hx hb dX1_put_24 rfl (lv_at hl 0 rfl) ?_
    refine lv_dup hx hb dX1_put_25 rfl ?_
    refine va_get (D := D) (ci := 1) (v := .int (nI ln)) (C := RX1) (T := TX1) (N := 5) hx hb hts i1 hown hK hP 2 rfl rfl 0 (by decide) w1 (fun _ h9 => h9) rfl dX1_put_26 ?_
    refine lv_iconst (v := 1) hx hb dX1_put_29 (by decide) ?_
    refine lv_iadd hx hb dX1_put_30 ?_
    refine endI (r := nI (ln + 1)) (nI_add _ _) ?_
    refine va_put (D := D) (ci := 1) (v := .int (nI (ln + 1))) (ty := .int) (C := RX1) (T := TX1) (N := 5) hx hb hts i1 tyX1 tyX1_ok nmX1 hown hK hP hD hS 2 rfl rfl 0 (by decide) w1 (fun _ h9 => h9) rfl (by decide +kernel) rfl rfl (Nat.le_of_ble_eq_true rfl) dX1_put_31 (fun H locs hP hD hS => ?_)
    have hP : va_P D vwCl (WIN T v B O g (ln + 1) un nx pl (va_up f0 ln (z &&& 255)) f1 f2) H := hP
    have hD : va_D A (WIN T v B O g (ln + 1) un nx pl (va_up f0 ln (z &&& 255)) f1 f2) := hD
    exact hret _ _ _ _ dX1_put_34 hP hD hS

set_option maxHeartbeats 4000000 in
set_option maxRecDepth 100000 in
theorem c_X1_byteAt (l : Launch) (D : va_G) (T : Nat → ClassId) (v : Nat → Nat) (B : Nat → Nat → Nat) (O : Nat → Nat → Nat → Int32) (g : CSt) (ln un nx pl : Nat) (f0 f1 f2 : Nat → Int32) (k : Nat) (hL2 : ln ≤ 600) (hk : k ≤ 2000) : Met l yX1_byteAt wsX1_byteAt ({ frames := 0, cells := 0, slots := 0, locals := 0 } : Room) (va_Pc [.ref (v 2), .int (nI k)] (PR D T (WIN T v B O g ln un nx pl f0 f1 f2))) (QcRead (if k < ln then f0 k else -1)) 0 0 (fun _ => False) := by
  refine metR (cc := cX1_byteAt) (maxL := 2) (ty := .int) (by decide) rfl (by rfl) (Nat.le_of_ble_eq_true rfl) ?_
  intro p e s m args below meth c Q ls hx hb hml hown hts hP hK hl hret
  have hown : s.vm.findClass RX1 = some m.cls := hown
  have hl : lv_has ls 2 [(0, .ref (v 2)), (1, .int (nI k))] := hl
  have i1 : ∀ w ∈ wsX10, w ∈ wsX1_byteAt := by decide +kernel
  have w1 := hts (Cond.fieldLink RX1 15 "MoonComplaintWindow$Input" "length" "I") (List.mem_of_getElem? (i := 1) rfl)
  have w2 := hts (Cond.fieldLink RX1 9 "MoonComplaintWindow$Input" "bytes" "[I") (List.mem_of_getElem? (i := 2) rfl)
  refine lv_iload_n hx hb dX1_byteAt_0 rfl (lv_at hl 1 rfl) ?_
  refine lv_if_lt (tgt := 21) hx hb dX1_byteAt_1 (by decide) (fun c1 => ?_) (fun c1 => ?_)
  ·
    have c1 : k < 0 := (nI_ltI (a := k) (b := 0) (by omega) (by omega)).mp c1
    exact absurd c1 (by omega)
  ·
    have c1 : ¬ k < 0 := fun h9 => c1 ((nI_ltI (a := k) (b := 0) (by omega) (by omega)).mpr h9)
    refine lv_iload_n hx hb dX1_byteAt_4 rfl (lv_at hl 1 rfl) ?_
    refine lv_aload_n hx hb dX1_byteAt_5 rfl (lv_at hl 0 rfl) ?_
    refine va_get (D := D) (ci := 1) (v := .int (nI ln)) (C := RX1) (T := TX1) (N := 5) hx hb hts i1 hown hK hP 2 rfl rfl 0 (by decide) w1 (fun _ h9 => h9) rfl dX1_byteAt_6 ?_
    refine lv_icmp_ge (tgt := 21) hx hb dX1_byteAt_9 (by decide) (fun c9 => ?_) (fun c9 => ?_)
    ·
      have c9 : ln ≤ k := (nI_leI (a := ln) (b := k) (by omega) (by omega)).mp c9
      refine lv_iconst (v := -1) hx hb dX1_byteAt_21 (by decide) ?_
      refine endI (r := if k < ln then f0 k else -1) (by first | (rw [if_pos (by omega)]; done) | (rw [if_neg (by omega)]; done)) ?_
      exact hret ls _ dX1_byteAt_22
    ·
      have c9 : ¬ ln ≤ k := fun h9 => c9 ((nI_leI (a := ln) (b := k) (by omega) (by omega)).mpr h9)
      refine lv_aload_n hx hb dX1_byteAt_12 rfl (lv_at hl 0 rfl) ?_
      refine va_get (D := D) (ci := 1) (v := .ref (v 3)) (C := RX1) (T := TX1) (N := 5) hx hb hts i1 hown hK hP 2 rfl rfl 4 (by decide) w2 (fun _ h9 => h9) rfl dX1_byteAt_13 ?_
      refine lv_iload_n hx hb dX1_byteAt_16 rfl (lv_at hl 1 rfl) ?_
      refine aldI hx hb hK hP 3 0 rfl rfl (k) rfl (by omega) (by decide) dX1_byteAt_17 ?_
      refine endI (r := f0 k) rfl ?_
      refine lv_goto (tgt := 22) hx hb dX1_byteAt_18 (by decide) ?_
      refine endI (r := if k < ln then f0 k else -1) (by first | (rw [if_pos (by omega)]; done) | (rw [if_neg (by omega)]; done)) ?_
      exact hret ls _ dX1_byteAt_22

set_option maxHeartbeats 4000000 in
set_option maxRecDepth 100000 in
theorem c_X1_isBlank (l : Launch) (D : va_G) (T : Nat → ClassId)  (z : Int32) : Met l yX1_isBlank wsX1_isBlank ({ frames := 0, cells := 0, slots := 0, locals := 0 } : Room) (va_Pc [.int (z)] (fun _ => True)) (QcRead (bI (blankB z))) 0 0 (fun _ => False) := by
  refine metT (cc := cX1_isBlank) (maxL := 1) (ty := .boolean) (by decide) rfl (by exact bI_nb _) (Nat.le_of_ble_eq_true rfl) ?_
  intro p e s m args below meth c Q ls hx hb hml hown hts hl hret
  have hown : s.vm.findClass RX1 = some m.cls := hown
  have hl : lv_has ls 1 [(0, .int (z))] := hl
  refine lv_iload_n hx hb dX1_isBlank_0 rfl (lv_at hl 0 rfl) ?_
  refine lv_bipush (v := 32) hx hb dX1_isBlank_1 (by decide) ?_
  refine lv_icmp_eq (tgt := 12) hx hb dX1_isBlank_3 (by decide) (fun c3 => ?_) (fun c3 => ?_)
  ·
    refine lv_iconst (v := 1) hx hb dX1_isBlank_12 (by decide) ?_
    refine lv_goto (tgt := 17) hx hb dX1_isBlank_13 (by decide) ?_
    refine endI (r := bI (blankB z)) (by simp [bI, blankB, c3]) ?_
    exact hret ls _ dX1_isBlank_17
  ·
    refine lv_iload_n hx hb dX1_isBlank_6 rfl (lv_at hl 0 rfl) ?_
    refine lv_bipush (v := 10) hx hb dX1_isBlank_7 (by decide) ?_
    refine lv_icmp_ne (tgt := 16) hx hb dX1_isBlank_9 (by decide) (fun c9 => ?_) (fun c9 => ?_)
    ·
      refine lv_iconst (v := 0) hx hb dX1_isBlank_16 (by decide) ?_
      refine endI (r := bI (blankB z)) (by simp [bI, blankB, c3, c9]) ?_
      exact hret ls _ dX1_isBlank_17
    ·
      refine lv_iconst (v := 1) hx hb dX1_isBlank_12 (by decide) ?_
      refine lv_goto (tgt := 17) hx hb dX1_isBlank_13 (by decide) ?_
      refine endI (r := bI (blankB z)) (by simp [bI, blankB, c3, c9]) ?_
      exact hret ls _ dX1_isBlank_17

set_option maxHeartbeats 4000000 in
set_option maxRecDepth 100000 in
theorem c_X1_isLetter (l : Launch) (D : va_G) (T : Nat → ClassId)  (z : Int32) : Met l yX1_isLetter wsX1_isLetter ({ frames := 0, cells := 0, slots := 0, locals := 0 } : Room) (va_Pc [.int (z)] (fun _ => True)) (QcRead (bI (smallB z))) 0 0 (fun _ => False) := by
  refine metT (cc := cX1_isLetter) (maxL := 1) (ty := .boolean) (by decide) rfl (by exact bI_nb _) (Nat.le_of_ble_eq_true rfl) ?_
  intro p e s m args below meth c Q ls hx hb hml hown hts hl hret
  have hown : s.vm.findClass RX1 = some m.cls := hown
  have hl : lv_has ls 1 [(0, .int (z))] := hl
  refine lv_iload_n hx hb dX1_isLetter_0 rfl (lv_at hl 0 rfl) ?_
  refine lv_bipush (v := 97) hx hb dX1_isLetter_1 (by decide) ?_
  refine lv_icmp_lt (tgt := 16) hx hb dX1_isLetter_3 (by decide) (fun c3 => ?_) (fun c3 => ?_)
  ·
    refine lv_iconst (v := 0) hx hb dX1_isLetter_16 (by decide) ?_
    refine endI (r := bI (smallB z)) (by (first | have c3x := Int32.not_lt.mp c3 | have c3x := Int32.not_le.mp c3 | have c3x := Int32.not_lt.mpr c3 | have c3x := Int32.not_le.mpr c3 | have c3x := c3); simp [bI, smallB, c3, c3x]) ?_
    exact hret ls _ dX1_isLetter_17
  ·
    refine lv_iload_n hx hb dX1_isLetter_6 rfl (lv_at hl 0 rfl) ?_
    refine lv_bipush (v := 122) hx hb dX1_isLetter_7 (by decide) ?_
    refine lv_icmp_gt (tgt := 16) hx hb dX1_isLetter_9 (by decide) (fun c9 => ?_) (fun c9 => ?_)
    ·
      refine lv_iconst (v := 0) hx hb dX1_isLetter_16 (by decide) ?_
      refine endI (r := bI (smallB z)) (by (first | have c3x := Int32.not_lt.mp c3 | have c3x := Int32.not_le.mp c3 | have c3x := Int32.not_lt.mpr c3 | have c3x := Int32.not_le.mpr c3 | have c3x := c3); (first | have c9x := Int32.not_lt.mp c9 | have c9x := Int32.not_le.mp c9 | have c9x := Int32.not_lt.mpr c9 | have c9x := Int32.not_le.mpr c9 | have c9x := c9); simp [bI, smallB, c3, c9, c3x, c9x]) ?_
      exact hret ls _ dX1_isLetter_17
    ·
      refine lv_iconst (v := 1) hx hb dX1_isLetter_12 (by decide) ?_
      refine lv_goto (tgt := 17) hx hb dX1_isLetter_13 (by decide) ?_
      refine endI (r := bI (smallB z)) (by (first | have c3x := Int32.not_lt.mp c3 | have c3x := Int32.not_le.mp c3 | have c3x := Int32.not_lt.mpr c3 | have c3x := Int32.not_le.mpr c3 | have c3x := c3); (first | have c9x := Int32.not_lt.mp c9 | have c9x := Int32.not_le.mp c9 | have c9x := Int32.not_lt.mpr c9 | have c9x := Int32.not_le.mpr c9 | have c9x := c9); simp [bI, smallB, c3, c9, c3x, c9x]) ?_
      exact hret ls _ dX1_isLetter_17

set_option maxHeartbeats 4000000 in
set_option maxRecDepth 100000 in
theorem c_X1_isDigit (l : Launch) (D : va_G) (T : Nat → ClassId)  (z : Int32) : Met l yX1_isDigit wsX1_isDigit ({ frames := 0, cells := 0, slots := 0, locals := 0 } : Room) (va_Pc [.int (z)] (fun _ => True)) (QcRead (bI (digB z))) 0 0 (fun _ => False) := by
  refine metT (cc := cX1_isDigit) (maxL := 1) (ty := .boolean) (by decide) rfl (by exact bI_nb _) (Nat.le_of_ble_eq_true rfl) ?_
  intro p e s m args below meth c Q ls hx hb hml hown hts hl hret
  have hown : s.vm.findClass RX1 = some m.cls := hown
  have hl : lv_has ls 1 [(0, .int (z))] := hl
  refine lv_iload_n hx hb dX1_isDigit_0 rfl (lv_at hl 0 rfl) ?_
  refine lv_bipush (v := 48) hx hb dX1_isDigit_1 (by decide) ?_
  refine lv_icmp_lt (tgt := 16) hx hb dX1_isDigit_3 (by decide) (fun c3 => ?_) (fun c3 => ?_)
  ·
    refine lv_iconst (v := 0) hx hb dX1_isDigit_16 (by decide) ?_
    refine endI (r := bI (digB z)) (by (first | have c3x := Int32.not_lt.mp c3 | have c3x := Int32.not_le.mp c3 | have c3x := Int32.not_lt.mpr c3 | have c3x := Int32.not_le.mpr c3 | have c3x := c3); simp [bI, digB, c3, c3x]) ?_
    exact hret ls _ dX1_isDigit_17
  ·
    refine lv_iload_n hx hb dX1_isDigit_6 rfl (lv_at hl 0 rfl) ?_
    refine lv_bipush (v := 57) hx hb dX1_isDigit_7 (by decide) ?_
    refine lv_icmp_gt (tgt := 16) hx hb dX1_isDigit_9 (by decide) (fun c9 => ?_) (fun c9 => ?_)
    ·
      refine lv_iconst (v := 0) hx hb dX1_isDigit_16 (by decide) ?_
      refine endI (r := bI (digB z)) (by (first | have c3x := Int32.not_lt.mp c3 | have c3x := Int32.not_le.mp c3 | have c3x := Int32.not_lt.mpr c3 | have c3x := Int32.not_le.mpr c3 | have c3x := c3); (first | have c9x := Int32.not_lt.mp c9 | have c9x := Int32.not_le.mp c9 | have c9x := Int32.not_lt.mpr c9 | have c9x := Int32.not_le.mpr c9 | have c9x := c9); simp [bI, digB, c3, c9, c3x, c9x]) ?_
      exact hret ls _ dX1_isDigit_17
    ·
      refine lv_iconst (v := 1) hx hb dX1_isDigit_12 (by decide) ?_
      refine lv_goto (tgt := 17) hx hb dX1_isDigit_13 (by decide) ?_
      refine endI (r := bI (digB z)) (by (first | have c3x := Int32.not_lt.mp c3 | have c3x := Int32.not_le.mp c3 | have c3x := Int32.not_lt.mpr c3 | have c3x := Int32.not_le.mpr c3 | have c3x := c3); (first | have c9x := Int32.not_lt.mp c9 | have c9x := Int32.not_le.mp c9 | have c9x := Int32.not_lt.mpr c9 | have c9x := Int32.not_le.mpr c9 | have c9x := c9); simp [bI, digB, c3, c9, c3x, c9x]) ?_
      exact hret ls _ dX1_isDigit_17

set_option maxHeartbeats 4000000 in
set_option maxRecDepth 100000 in
theorem c_X1_passLetters (l : Launch) (D : va_G) (T : Nat → ClassId) (v : Nat → Nat) (B : Nat → Nat → Nat) (O : Nat → Nat → Nat → Int32) (g : CSt) (ln un nx pl : Nat) (f0 f1 f2 : Nat → Int32) (hL2 : ln ≤ 600) (hg3 : g.2.2.1 ≤ ln) (sz : Nat) : Met l yX1_passLetters wsX1_passLetters ({ frames := 1, cells := 0, slots := 0, locals := 21 } : Room) (va_Pc [.ref (v 2)] (PS D T (WIN T v B O g ln un nx pl f0 f1 f2) sz)) (va_Qv (fun (_ : Unit) => True) (fun _ t => QS D T (va_A (WIN T v B O g ln un nx pl f0 f1 f2) sz) (WIN T v B O ((g.1, g.2.1, runN smallB f0 (ln - g.2.2.1) g.2.2.1, g.2.2.2.1, g.2.2.2.2)) ln un nx pl f0 f1 f2) t) (va_A (WIN T v B O g ln un nx pl f0 f1 f2) sz)) 0 0 (va_A (WIN T v B O g ln un nx pl f0 f1 f2) sz) := by
  refine metSv (cc := cX1_passLetters) (maxL := 1) (by decide) rfl (Nat.le_of_ble_eq_true rfl) ?_
  intro p e s m args below meth c Q ls A hx hb hml hown hts hP hK hD hA hS hl hret
  have hown : s.vm.findClass RX1 = some m.cls := hown
  have hl : lv_has ls 1 [(0, .ref (v 2))] := hl
  have i1 : ∀ w ∈ wsX10, w ∈ wsX1_passLetters := by decide +kernel
  have w1 := hts (Cond.fieldLink RX1 23 "MoonComplaintWindow$Input" "end" "I") (List.mem_of_getElem? (i := 1) rfl)
  have w2 := hts (Cond.fieldLink RX1 15 "MoonComplaintWindow$Input" "length" "I") (List.mem_of_getElem? (i := 2) rfl)
  have L0 : ∀ (n9 : Nat) (k : Nat), (ln - k) < n9 → (k ≤ ln) → (runN smallB f0 (ln - k) k = runN smallB f0 (ln - g.2.2.1) g.2.2.1) → ∀ (H : Heap) (locs : List Loc) (ls : Array Slot), va_P D vwCl (WIN T v B O ((g.1, g.2.1, k, g.2.2.2.1, g.2.2.2.2)) ln un nx pl f0 f1 f2) H → va_D A (WIN T v B O ((g.1, g.2.1, k, g.2.2.2.1, g.2.2.2.2)) ln un nx pl f0 f1 f2) → va_S A s.heap H locs → lv_has ls 1 [(0, .ref (v 2))] → W p l e ({ frames := 1, cells := 0, slots := 0, locals := 21 } : Room) s m args below meth c H locs 0 0 Q (F0 m 0 ls []) := by
    intro n9
    induction n9 with
    | zero => intro k hm9; exact absurd hm9 (Nat.not_lt_zero _)
    | succ n9 ih =>
      intro k hm9 hk9 hR H locs ls hP hD hS hl
      refine lv_aload_n hx hb dX1_passLetters_0 rfl (lv_at hl 0 rfl) ?_
      refine va_get (D := D) (ci := 1) (v := .int (nI k)) (C := RX1) (T := TX1) (N := 5) hx hb hts i1 hown hK hP 2 rfl rfl 3 (by decide) w1 (fun _ h9 => h9) rfl dX1_passLetters_1 ?_
      refine lv_aload_n hx hb dX1_passLetters_4 rfl (lv_at hl 0 rfl) ?_
      refine va_get (D := D) (ci := 1) (v := .int (nI ln)) (C := RX1) (T := TX1) (N := 5) hx hb hts i1 hown hK hP 2 rfl rfl 0 (by decide) w2 (fun _ h9 => h9) rfl dX1_passLetters_5 ?_
      refine lv_icmp_ge (tgt := 38) hx hb dX1_passLetters_8 (by decide) (fun c8 => ?_) (fun c8 => ?_)
      ·
        have c8 : ln ≤ k := (nI_leI (a := ln) (b := k) (by omega) (by omega)).mp c8
        have hE : (WIN T v B O ((g.1, g.2.1, k, g.2.2.2.1, g.2.2.2.2)) ln un nx pl f0 f1 f2 : va_W) = (WIN T v B O ((g.1, g.2.1, runN smallB f0 (ln - g.2.2.1) g.2.2.1, g.2.2.2.1, g.2.2.2.2)) ln un nx pl f0 f1 f2) := by first | (rw [runN_done (by omega)] at hR; rw [← hR]; done) | (rw [runN_stop c22] at hR; rw [← hR]; done)
        exact hret _ _ _ _ dX1_passLetters_38 (by rw [← hE]; exact hP) (by rw [← hE]; exact hD) hS
      ·
        have c8 : ¬ ln ≤ k := fun h9 => c8 ((nI_leI (a := ln) (b := k) (by omega) (by omega)).mpr h9)
        have c8 : k < ln := by omega
        refine lv_aload_n hx hb dX1_passLetters_11 rfl (lv_at hl 0 rfl) ?_
        refine lv_aload_n hx hb dX1_passLetters_12 rfl (lv_at hl 0 rfl) ?_
        refine va_get (D := D) (ci := 1) (v := .int (nI k)) (C := RX1) (T := TX1) (N := 5) hx hb hts i1 hown hK hP 2 rfl rfl 3 (by decide) w1 (fun _ h9 => h9) rfl dX1_passLetters_13 ?_
        refine rdV (As := [.int (nI k)]) (rest := []) ⟨hx, hb, hml, hown, hts⟩ (c_X1_byteAt l D T v B O ((g.1, g.2.1, k, g.2.2.2.1, g.2.2.2.2)) ln un nx pl f0 f1 f2 k (by first | omega | assumption | decide) (by first | omega | assumption | decide)) (cwV 1 hts gX1_passLetters_X1_byteAt rfl rfl rfl (by decide +kernel) ⟨Nat.le_of_ble_eq_true rfl, Nat.le_of_ble_eq_true rfl⟩) hK hP 2 rfl rfl rfl hl.1 rfl (Nat.le_of_ble_eq_true rfl) ⟨Nat.zero_le _, Nat.zero_le _⟩ dX1_passLetters_16 ?_
        refine rdT (As := [.int (if k < ln then f0 k else -1)]) (rest := []) ⟨hx, hb, hml, hown, hts⟩ (c_X1_isLetter l D T (if k < ln then f0 k else -1) ) (va_cwS 1 hts gX1_passLetters_X1_isLetter rfl rfl rfl (by decide +kernel) ⟨Nat.le_of_ble_eq_true rfl, Nat.le_of_ble_eq_true rfl⟩) rfl hl.1 rfl (Nat.le_of_ble_eq_true rfl) ⟨Nat.zero_le _, Nat.zero_le _⟩ dX1_passLetters_19 ?_
        refine lv_if_eq (tgt := 38) hx hb dX1_passLetters_22 (by decide) (fun c22 => ?_) (fun c22 => ?_)
        ·
          have c22 := bI_0.mp c22
          rw [if_pos c8] at c22
          have hE : (WIN T v B O ((g.1, g.2.1, k, g.2.2.2.1, g.2.2.2.2)) ln un nx pl f0 f1 f2 : va_W) = (WIN T v B O ((g.1, g.2.1, runN smallB f0 (ln - g.2.2.1) g.2.2.1, g.2.2.2.1, g.2.2.2.2)) ln un nx pl f0 f1 f2) := by first | (rw [runN_done (by omega)] at hR; rw [← hR]; done) | (rw [runN_stop c22] at hR; rw [← hR]; done)
          exact hret _ _ _ _ dX1_passLetters_38 (by rw [← hE]; exact hP) (by rw [← hE]; exact hD) hS
        ·
          have c22 := bI_n0.mp c22
          rw [if_pos c8] at c22
          refine lv_aload_n hx hb dX1_passLetters_25 rfl (lv_at hl 0 rfl) ?_
          refine lv_dup hx hb dX1_passLetters_26 rfl ?_
          refine va_get (D := D) (ci := 1) (v := .int (nI k)) (C := RX1) (T := TX1) (N := 5) hx hb hts i1 hown hK hP 2 rfl rfl 3 (by decide) w1 (fun _ h9 => h9) rfl dX1_passLetters_27 ?_
          refine lv_iconst (v := 1) hx hb dX1_passLetters_30 (by decide) ?_
          refine lv_iadd hx hb dX1_passLetters_31 ?_
          refine endI (r := nI (k + 1)) (nI_add _ _) ?_
          refine va_put (D := D) (ci := 1) (v := .int (nI (k + 1))) (ty := .int) (C := RX1) (T := TX1) (N := 5) hx hb hts i1 tyX1 tyX1_ok nmX1 hown hK hP hD hS 2 rfl rfl 3 (by decide) w1 (fun _ h9 => h9) rfl (by decide +kernel) rfl rfl (Nat.le_of_ble_eq_true rfl) dX1_passLetters_32 (fun H locs hP hD hS => ?_)
          have hP : va_P D vwCl (WIN T v B O ((g.1, g.2.1, k + 1, g.2.2.2.1, g.2.2.2.2)) ln un nx pl f0 f1 f2) H := hP
          have hD : va_D A (WIN T v B O ((g.1, g.2.1, k + 1, g.2.2.2.1, g.2.2.2.2)) ln un nx pl f0 f1 f2) := hD
          refine lv_goto (tgt := 0) hx hb dX1_passLetters_35 (by decide) ?_
          exact ih (k + 1) (by omega) (by omega) (by rw [runN_step c8 c22] at hR; exact hR) _ _ _ hP hD hS (lv_sub hl [0] rfl)
  exact L0 _ g.2.2.1 (Nat.lt_succ_self _) (by omega) (by rfl) _ _ _ hP hD hS (lv_sub hl [0] rfl)

set_option maxHeartbeats 4000000 in
set_option maxRecDepth 100000 in
theorem c_X1_passDigits (l : Launch) (D : va_G) (T : Nat → ClassId) (v : Nat → Nat) (B : Nat → Nat → Nat) (O : Nat → Nat → Nat → Int32) (g : CSt) (ln un nx pl : Nat) (f0 f1 f2 : Nat → Int32) (hL2 : ln ≤ 600) (hg3 : g.2.2.1 ≤ ln) (sz : Nat) : Met l yX1_passDigits wsX1_passDigits ({ frames := 1, cells := 0, slots := 0, locals := 21 } : Room) (va_Pc [.ref (v 2)] (PS D T (WIN T v B O g ln un nx pl f0 f1 f2) sz)) (va_Qv (fun (_ : Unit) => True) (fun _ t => QS D T (va_A (WIN T v B O g ln un nx pl f0 f1 f2) sz) (WIN T v B O ((g.1, g.2.1, runN digB f0 (ln - g.2.2.1) g.2.2.1, g.2.2.2.1, g.2.2.2.2)) ln un nx pl f0 f1 f2) t) (va_A (WIN T v B O g ln un nx pl f0 f1 f2) sz)) 0 0 (va_A (WIN T v B O g ln un nx pl f0 f1 f2) sz) := by
  refine metSv (cc := cX1_passDigits) (maxL := 1) (by decide) rfl (Nat.le_of_ble_eq_true rfl) ?_
  intro p e s m args below meth c Q ls A hx hb hml hown hts hP hK hD hA hS hl hret
  have hown : s.vm.findClass RX1 = some m.cls := hown
  have hl : lv_has ls 1 [(0, .ref (v 2))] := hl
  have i1 : ∀ w ∈ wsX10, w ∈ wsX1_passDigits := by decide +kernel
  have w1 := hts (Cond.fieldLink RX1 23 "MoonComplaintWindow$Input" "end" "I") (List.mem_of_getElem? (i := 1) rfl)
  have w2 := hts (Cond.fieldLink RX1 15 "MoonComplaintWindow$Input" "length" "I") (List.mem_of_getElem? (i := 2) rfl)
  have L0 : ∀ (n9 : Nat) (k : Nat), (ln - k) < n9 → (k ≤ ln) → (runN digB f0 (ln - k) k = runN digB f0 (ln - g.2.2.1) g.2.2.1) → ∀ (H : Heap) (locs : List Loc) (ls : Array Slot), va_P D vwCl (WIN T v B O ((g.1, g.2.1, k, g.2.2.2.1, g.2.2.2.2)) ln un nx pl f0 f1 f2) H → va_D A (WIN T v B O ((g.1, g.2.1, k, g.2.2.2.1, g.2.2.2.2)) ln un nx pl f0 f1 f2) → va_S A s.heap H locs → lv_has ls 1 [(0, .ref (v 2))] → W p l e ({ frames := 1, cells := 0, slots := 0, locals := 21 } : Room) s m args below meth c H locs 0 0 Q (F0 m 0 ls []) := by
    intro n9
    induction n9 with
    | zero => intro k hm9; exact absurd hm9 (Nat.not_lt_zero _)
    | succ n9 ih =>
      intro k hm9 hk9 hR H locs ls hP hD hS hl
      refine lv_aload_n hx hb dX1_passDigits_0 rfl (lv_at hl 0 rfl) ?_
      refine va_get (D := D) (ci := 1) (v := .int (nI k)) (C := RX1) (T := TX1) (N := 5) hx hb hts i1 hown hK hP 2 rfl rfl 3 (by decide) w1 (fun _ h9 => h9) rfl dX1_passDigits_1 ?_
      refine lv_aload_n hx hb dX1_passDigits_4 rfl (lv_at hl 0 rfl) ?_
      refine va_get (D := D) (ci := 1) (v := .int (nI ln)) (C := RX1) (T := TX1) (N := 5) hx hb hts i1 hown hK hP 2 rfl rfl 0 (by decide) w2 (fun _ h9 => h9) rfl dX1_passDigits_5 ?_
      refine lv_icmp_ge (tgt := 38) hx hb dX1_passDigits_8 (by decide) (fun c8 => ?_) (fun c8 => ?_)
      ·
        have c8 : ln ≤ k := (nI_leI (a := ln) (b := k) (by omega) (by omega)).mp c8
        have hE : (WIN T v B O ((g.1, g.2.1, k, g.2.2.2.1, g.2.2.2.2)) ln un nx pl f0 f1 f2 : va_W) = (WIN T v B O ((g.1, g.2.1, runN digB f0 (ln - g.2.2.1) g.2.2.1, g.2.2.2.1, g.2.2.2.2)) ln un nx pl f0 f1 f2) := by first | (rw [runN_done (by omega)] at hR; rw [← hR]; done) | (rw [runN_stop c22] at hR; rw [← hR]; done)
        exact hret _ _ _ _ dX1_passDigits_38 (by rw [← hE]; exact hP) (by rw [← hE]; exact hD) hS
      ·
        have c8 : ¬ ln ≤ k := fun h9 => c8 ((nI_leI (a := ln) (b := k) (by omega) (by omega)).mpr h9)
        have c8 : k < ln := by omega
        refine lv_aload_n hx hb dX1_passDigits_11 rfl (lv_at hl 0 rfl) ?_
        refine lv_aload_n hx hb dX1_passDigits_12 rfl (lv_at hl 0 rfl) ?_
        refine va_get (D := D) (ci := 1) (v := .int (nI k)) (C := RX1) (T := TX1) (N := 5) hx hb hts i1 hown hK hP 2 rfl rfl 3 (by decide) w1 (fun _ h9 => h9) rfl dX1_passDigits_13 ?_
        refine rdV (As := [.int (nI k)]) (rest := []) ⟨hx, hb, hml, hown, hts⟩ (c_X1_byteAt l D T v B O ((g.1, g.2.1, k, g.2.2.2.1, g.2.2.2.2)) ln un nx pl f0 f1 f2 k (by first | omega | assumption | decide) (by first | omega | assumption | decide)) (cwV 1 hts gX1_passDigits_X1_byteAt rfl rfl rfl (by decide +kernel) ⟨Nat.le_of_ble_eq_true rfl, Nat.le_of_ble_eq_true rfl⟩) hK hP 2 rfl rfl rfl hl.1 rfl (Nat.le_of_ble_eq_true rfl) ⟨Nat.zero_le _, Nat.zero_le _⟩ dX1_passDigits_16 ?_
        refine rdT (As := [.int (if k < ln then f0 k else -1)]) (rest := []) ⟨hx, hb, hml, hown, hts⟩ (c_X1_isDigit l D T (if k < ln then f0 k else -1) ) (va_cwS 1 hts gX1_passDigits_X1_isDigit rfl rfl rfl (by decide +kernel) ⟨Nat.le_of_ble_eq_true rfl, Nat.le_of_ble_eq_true rfl⟩) rfl hl.1 rfl (Nat.le_of_ble_eq_true rfl) ⟨Nat.zero_le _, Nat.zero_le _⟩ dX1_passDigits_19 ?_
        refine lv_if_eq (tgt := 38) hx hb dX1_passDigits_22 (by decide) (fun c22 => ?_) (fun c22 => ?_)
        ·
          have c22 := bI_0.mp c22
          rw [if_pos c8] at c22
          have hE : (WIN T v B O ((g.1, g.2.1, k, g.2.2.2.1, g.2.2.2.2)) ln un nx pl f0 f1 f2 : va_W) = (WIN T v B O ((g.1, g.2.1, runN digB f0 (ln - g.2.2.1) g.2.2.1, g.2.2.2.1, g.2.2.2.2)) ln un nx pl f0 f1 f2) := by first | (rw [runN_done (by omega)] at hR; rw [← hR]; done) | (rw [runN_stop c22] at hR; rw [← hR]; done)
          exact hret _ _ _ _ dX1_passDigits_38 (by rw [← hE]; exact hP) (by rw [← hE]; exact hD) hS
        ·
          have c22 := bI_n0.mp c22
          rw [if_pos c8] at c22
          refine lv_aload_n hx hb dX1_passDigits_25 rfl (lv_at hl 0 rfl) ?_
          refine lv_dup hx hb dX1_passDigits_26 rfl ?_
          refine va_get (D := D) (ci := 1) (v := .int (nI k)) (C := RX1) (T := TX1) (N := 5) hx hb hts i1 hown hK hP 2 rfl rfl 3 (by decide) w1 (fun _ h9 => h9) rfl dX1_passDigits_27 ?_
          refine lv_iconst (v := 1) hx hb dX1_passDigits_30 (by decide) ?_
          refine lv_iadd hx hb dX1_passDigits_31 ?_
          refine endI (r := nI (k + 1)) (nI_add _ _) ?_
          refine va_put (D := D) (ci := 1) (v := .int (nI (k + 1))) (ty := .int) (C := RX1) (T := TX1) (N := 5) hx hb hts i1 tyX1 tyX1_ok nmX1 hown hK hP hD hS 2 rfl rfl 3 (by decide) w1 (fun _ h9 => h9) rfl (by decide +kernel) rfl rfl (Nat.le_of_ble_eq_true rfl) dX1_passDigits_32 (fun H locs hP hD hS => ?_)
          have hP : va_P D vwCl (WIN T v B O ((g.1, g.2.1, k + 1, g.2.2.2.1, g.2.2.2.2)) ln un nx pl f0 f1 f2) H := hP
          have hD : va_D A (WIN T v B O ((g.1, g.2.1, k + 1, g.2.2.2.1, g.2.2.2.2)) ln un nx pl f0 f1 f2) := hD
          refine lv_goto (tgt := 0) hx hb dX1_passDigits_35 (by decide) ?_
          exact ih (k + 1) (by omega) (by omega) (by rw [runN_step c8 c22] at hR; exact hR) _ _ _ hP hD hS (lv_sub hl [0] rfl)
  exact L0 _ g.2.2.1 (Nat.lt_succ_self _) (by omega) (by rfl) _ _ _ hP hD hS (lv_sub hl [0] rfl)

set_option maxHeartbeats 4000000 in
set_option maxRecDepth 100000 in
theorem c_X1_advance (l : Launch) (D : va_G) (T : Nat → ClassId) (v : Nat → Nat) (B : Nat → Nat → Nat) (O : Nat → Nat → Nat → Int32) (g : CSt) (ln un nx pl : Nat) (f0 f1 f2 : Nat → Int32) (hL2 : ln ≤ 600) (hg3 : g.2.2.1 ≤ ln) (hby : ∀ i, i < ln → ¬ f0 i = -1) (sz : Nat) : Met l yX1_advance wsX1_advance ({ frames := 2, cells := 0, slots := 0, locals := 41 } : Room) (va_Pc [.ref (v 2)] (PS D T (WIN T v B O g ln un nx pl f0 f1 f2) sz)) (va_Qv (fun (_ : Unit) => True) (fun _ t => QS D T (va_A (WIN T v B O g ln un nx pl f0 f1 f2) sz) (WIN T v B O (advC f0 ln g) ln un nx pl f0 f1 f2) t) (va_A (WIN T v B O g ln un nx pl f0 f1 f2) sz)) 0 0 (va_A (WIN T v B O g ln un nx pl f0 f1 f2) sz) := by
  refine metSv (cc := cX1_advance) (maxL := 2) (by decide) rfl (Nat.le_of_ble_eq_true rfl) ?_
  intro p e s m args below meth c Q ls A hx hb hml hown hts hP hK hD hA hS hl hret
  have hown : s.vm.findClass RX1 = some m.cls := hown
  have hl : lv_has ls 2 [(0, .ref (v 2))] := hl
  have i1 : ∀ w ∈ wsX10, w ∈ wsX1_advance := by decide +kernel
  have w1 := hts (Cond.fieldLink RX1 23 "MoonComplaintWindow$Input" "end" "I") (List.mem_of_getElem? (i := 1) rfl)
  have w2 := hts (Cond.fieldLink RX1 29 "MoonComplaintWindow$Input" "start" "I") (List.mem_of_getElem? (i := 2) rfl)
  have w3 := hts (Cond.fieldLink RX1 15 "MoonComplaintWindow$Input" "length" "I") (List.mem_of_getElem? (i := 3) rfl)
  have w4 := hts (Cond.fieldLink RX1 40 "MoonComplaintWindow$Input" "kind" "I") (List.mem_of_getElem? (i := 4) rfl)
  refine lv_aload_n hx hb dX1_advance_0 rfl (lv_at hl 0 rfl) ?_
  refine lv_aload_n hx hb dX1_advance_1 rfl (lv_at hl 0 rfl) ?_
  refine va_get (D := D) (ci := 1) (v := .int (nI g.2.2.1)) (C := RX1) (T := TX1) (N := 5) hx hb hts i1 hown hK hP 2 rfl rfl 3 (by decide) w1 (fun _ h9 => h9) rfl dX1_advance_2 ?_
  refine va_put (D := D) (ci := 1) (v := .int (nI g.2.2.1)) (ty := .int) (C := RX1) (T := TX1) (N := 5) hx hb hts i1 tyX1 tyX1_ok nmX1 hown hK hP hD hS 2 rfl rfl 2 (by decide) w2 (fun _ h9 => h9) rfl (by decide +kernel) rfl rfl (Nat.le_of_ble_eq_true rfl) dX1_advance_5 (fun H locs hP hD hS => ?_)
  have hP : va_P D vwCl (WIN T v B O ((g.1, g.2.2.1, g.2.2.1, g.2.2.2.1, g.2.2.2.2)) ln un nx pl f0 f1 f2) H := hP
  have hD : va_D A (WIN T v B O ((g.1, g.2.2.1, g.2.2.1, g.2.2.2.1, g.2.2.2.2)) ln un nx pl f0 f1 f2) := hD
  have L8 : ∀ (n9 : Nat) (k : Nat), (ln - k) < n9 → (k ≤ ln) → (runN blankB f0 (ln - k) k = runN blankB f0 (ln - g.2.2.1) g.2.2.1) → ∀ (H : Heap) (locs : List Loc) (ls : Array Slot), va_P D vwCl (WIN T v B O ((g.1, k, g.2.2.1, g.2.2.2.1, g.2.2.2.2)) ln un nx pl f0 f1 f2) H → va_D A (WIN T v B O ((g.1, k, g.2.2.1, g.2.2.2.1, g.2.2.2.2)) ln un nx pl f0 f1 f2) → va_S A s.heap H locs → lv_has ls 2 [(0, .ref (v 2))] → W p l e ({ frames := 2, cells := 0, slots := 0, locals := 41 } : Room) s m args below meth c H locs 0 0 Q (F0 m 8 ls []) := by
    intro n9
    induction n9 with
    | zero => intro k hm9; exact absurd hm9 (Nat.not_lt_zero _)
    | succ n9 ih =>
      intro k hm9 hk9 hR H locs ls hP hD hS hl
      refine lv_aload_n hx hb dX1_advance_8 rfl (lv_at hl 0 rfl) ?_
      refine va_get (D := D) (ci := 1) (v := .int (nI k)) (C := RX1) (T := TX1) (N := 5) hx hb hts i1 hown hK hP 2 rfl rfl 2 (by decide) w2 (fun _ h9 => h9) rfl dX1_advance_9 ?_
      refine lv_aload_n hx hb dX1_advance_12 rfl (lv_at hl 0 rfl) ?_
      refine va_get (D := D) (ci := 1) (v := .int (nI ln)) (C := RX1) (T := TX1) (N := 5) hx hb hts i1 hown hK hP 2 rfl rfl 0 (by decide) w3 (fun _ h9 => h9) rfl dX1_advance_13 ?_
      refine lv_icmp_ge (tgt := 46) hx hb dX1_advance_16 (by decide) (fun c16 => ?_) (fun c16 => ?_)
      ·
        have c16 : ln ≤ k := (nI_leI (a := ln) (b := k) (by omega) (by omega)).mp c16
        have hR9 : runN blankB f0 (ln - g.2.2.1) g.2.2.1 = k := by rw [← hR]; exact runN_done (by omega)
        refine lv_aload_n hx hb dX1_advance_46 rfl (lv_at hl 0 rfl) ?_
        refine lv_aload_n hx hb dX1_advance_47 rfl (lv_at hl 0 rfl) ?_
        refine va_get (D := D) (ci := 1) (v := .int (nI k)) (C := RX1) (T := TX1) (N := 5) hx hb hts i1 hown hK hP 2 rfl rfl 2 (by decide) w2 (fun _ h9 => h9) rfl dX1_advance_48 ?_
        refine va_put (D := D) (ci := 1) (v := .int (nI k)) (ty := .int) (C := RX1) (T := TX1) (N := 5) hx hb hts i1 tyX1 tyX1_ok nmX1 hown hK hP hD hS 2 rfl rfl 3 (by decide) w1 (fun _ h9 => h9) rfl (by decide +kernel) rfl rfl (Nat.le_of_ble_eq_true rfl) dX1_advance_51 (fun H locs hP hD hS => ?_)
        have hP : va_P D vwCl (WIN T v B O ((g.1, k, k, g.2.2.2.1, g.2.2.2.2)) ln un nx pl f0 f1 f2) H := hP
        have hD : va_D A (WIN T v B O ((g.1, k, k, g.2.2.2.1, g.2.2.2.2)) ln un nx pl f0 f1 f2) := hD
        refine lv_aload_n hx hb dX1_advance_54 rfl (lv_at hl 0 rfl) ?_
        refine lv_aload_n hx hb dX1_advance_55 rfl (lv_at hl 0 rfl) ?_
        refine va_get (D := D) (ci := 1) (v := .int (nI k)) (C := RX1) (T := TX1) (N := 5) hx hb hts i1 hown hK hP 2 rfl rfl 2 (by decide) w2 (fun _ h9 => h9) rfl dX1_advance_56 ?_
        refine rdV (As := [.int (nI k)]) (rest := []) ⟨hx, hb, hml, hown, hts⟩ (c_X1_byteAt l D T v B O ((g.1, k, k, g.2.2.2.1, g.2.2.2.2)) ln un nx pl f0 f1 f2 k (by first | omega | assumption | decide) (by first | omega | assumption | decide)) (cwV 1 hts gX1_advance_X1_byteAt rfl rfl rfl (by decide +kernel) ⟨Nat.le_of_ble_eq_true rfl, Nat.le_of_ble_eq_true rfl⟩) hK hP 2 rfl rfl rfl hl.1 rfl (Nat.le_of_ble_eq_true rfl) ⟨Nat.zero_le _, Nat.zero_le _⟩ dX1_advance_59 ?_
        obtain ⟨x9, hx9⟩ : ∃ x, (if k < ln then f0 k else -1) = x := ⟨_, rfl⟩
        refine endI hx9 ?_
        refine lv_istore_n (lv' := [(1, .int (x9)), (0, .ref (v 2))]) hx hb dX1_advance_62 rfl hl (by decide) rfl (fun ls hl => ?_)
        refine lv_iload_n hx hb dX1_advance_63 rfl (lv_at hl 0 rfl) ?_
        refine lv_iconst (v := -1) hx hb dX1_advance_64 (by decide) ?_
        refine lv_icmp_ne (tgt := 76) hx hb dX1_advance_65 (by decide) (fun c65 => ?_) (fun c65 => ?_)
        ·
          have hk0 : k < ln := by
            by_cases h : k < ln
            · exact h
            · rw [if_neg h] at hx9; exact absurd hx9.symm c65
          rw [if_pos hk0] at hx9
          have hkn : ¬ k = ln := by omega
          refine lv_iload_n hx hb dX1_advance_76 rfl (lv_at hl 0 rfl) ?_
          refine rdT (As := [.int (x9)]) (rest := []) ⟨hx, hb, hml, hown, hts⟩ (c_X1_isLetter l D T x9 ) (va_cwS 1 hts gX1_advance_X1_isLetter rfl rfl rfl (by decide +kernel) ⟨Nat.le_of_ble_eq_true rfl, Nat.le_of_ble_eq_true rfl⟩) rfl hl.1 rfl (Nat.le_of_ble_eq_true rfl) ⟨Nat.zero_le _, Nat.zero_le _⟩ dX1_advance_77 ?_
          refine lv_if_eq (tgt := 95) hx hb dX1_advance_80 (by decide) (fun c80 => ?_) (fun c80 => ?_)
          ·
            have c80 := bI_0.mp c80
            rw [← hx9] at c80
            refine lv_iload_n hx hb dX1_advance_95 rfl (lv_at hl 0 rfl) ?_
            refine rdT (As := [.int (x9)]) (rest := []) ⟨hx, hb, hml, hown, hts⟩ (c_X1_isDigit l D T x9 ) (va_cwS 1 hts gX1_advance_X1_isDigit rfl rfl rfl (by decide +kernel) ⟨Nat.le_of_ble_eq_true rfl, Nat.le_of_ble_eq_true rfl⟩) rfl hl.1 rfl (Nat.le_of_ble_eq_true rfl) ⟨Nat.zero_le _, Nat.zero_le _⟩ dX1_advance_96 ?_
            refine lv_if_eq (tgt := 131) hx hb dX1_advance_99 (by decide) (fun c99 => ?_) (fun c99 => ?_)
            ·
              have c99 := bI_0.mp c99
              rw [← hx9] at c99
              have hT := tkR_other hR9 hkn c80 c99
              refine lv_aload_n hx hb dX1_advance_131 rfl (lv_at hl 1 rfl) ?_
              refine lv_iload_n hx hb dX1_advance_132 rfl (lv_at hl 0 rfl) ?_
              refine lv_bipush (v := 59) hx hb dX1_advance_133 (by decide) ?_
              refine lv_icmp_ne (tgt := 142) hx hb dX1_advance_135 (by decide) (fun c135 => ?_) (fun c135 => ?_)
              ·
                rw [← hx9] at c135
                refine lv_iconst (v := 4) hx hb dX1_advance_142 (by decide) ?_
                refine va_put (D := D) (ci := 1) (v := .int (4)) (ty := .int) (C := RX1) (T := TX1) (N := 5) hx hb hts i1 tyX1 tyX1_ok nmX1 hown hK hP hD hS 2 rfl rfl 1 (by decide) w4 (fun _ h9 => h9) rfl (by decide +kernel) rfl rfl (Nat.le_of_ble_eq_true rfl) dX1_advance_143 (fun H locs hP hD hS => ?_)
                have hP : va_P D vwCl (WIN T v B O ((4, k, k, g.2.2.2.1, g.2.2.2.2)) ln un nx pl f0 f1 f2) H := hP
                have hD : va_D A (WIN T v B O ((4, k, k, g.2.2.2.1, g.2.2.2.2)) ln un nx pl f0 f1 f2) := hD
                refine lv_aload_n hx hb dX1_advance_146 rfl (lv_at hl 1 rfl) ?_
                refine lv_dup hx hb dX1_advance_147 rfl ?_
                refine va_get (D := D) (ci := 1) (v := .int (nI k)) (C := RX1) (T := TX1) (N := 5) hx hb hts i1 hown hK hP 2 rfl rfl 3 (by decide) w1 (fun _ h9 => h9) rfl dX1_advance_148 ?_
                refine lv_iconst (v := 1) hx hb dX1_advance_151 (by decide) ?_
                refine lv_iadd hx hb dX1_advance_152 ?_
                refine endI (r := nI (k + 1)) (nI_add _ _) ?_
                refine va_put (D := D) (ci := 1) (v := .int (nI (k + 1))) (ty := .int) (C := RX1) (T := TX1) (N := 5) hx hb hts i1 tyX1 tyX1_ok nmX1 hown hK hP hD hS 2 rfl rfl 3 (by decide) w1 (fun _ h9 => h9) rfl (by decide +kernel) rfl rfl (Nat.le_of_ble_eq_true rfl) dX1_advance_153 (fun H locs hP hD hS => ?_)
                have hP : va_P D vwCl (WIN T v B O ((4, k, k + 1, g.2.2.2.1, g.2.2.2.2)) ln un nx pl f0 f1 f2) H := hP
                have hD : va_D A (WIN T v B O ((4, k, k + 1, g.2.2.2.1, g.2.2.2.2)) ln un nx pl f0 f1 f2) := hD
                have hE : (WIN T v B O ((4, k, k + 1, g.2.2.2.1, g.2.2.2.2)) ln un nx pl f0 f1 f2 : va_W) = (WIN T v B O (advC f0 ln g) ln un nx pl f0 f1 f2) := by (unfold advC; rw [hT]) <;> first | rfl | (rw [if_neg (by omega)]; done) | (rw [if_pos (by omega)]; done) | (rw [if_pos (by first | exact c135 | (simpa using c135))]; done) | (rw [if_neg (by first | exact c135 | (simpa using c135))]; done)
                exact hret _ _ _ _ dX1_advance_156 (by rw [← hE]; exact hP) (by rw [← hE]; exact hD) hS
              ·
                rw [← hx9] at c135
                refine lv_iconst (v := 3) hx hb dX1_advance_138 (by decide) ?_
                refine lv_goto (tgt := 143) hx hb dX1_advance_139 (by decide) ?_
                refine va_put (D := D) (ci := 1) (v := .int (3)) (ty := .int) (C := RX1) (T := TX1) (N := 5) hx hb hts i1 tyX1 tyX1_ok nmX1 hown hK hP hD hS 2 rfl rfl 1 (by decide) w4 (fun _ h9 => h9) rfl (by decide +kernel) rfl rfl (Nat.le_of_ble_eq_true rfl) dX1_advance_143 (fun H locs hP hD hS => ?_)
                have hP : va_P D vwCl (WIN T v B O ((3, k, k, g.2.2.2.1, g.2.2.2.2)) ln un nx pl f0 f1 f2) H := hP
                have hD : va_D A (WIN T v B O ((3, k, k, g.2.2.2.1, g.2.2.2.2)) ln un nx pl f0 f1 f2) := hD
                refine lv_aload_n hx hb dX1_advance_146 rfl (lv_at hl 1 rfl) ?_
                refine lv_dup hx hb dX1_advance_147 rfl ?_
                refine va_get (D := D) (ci := 1) (v := .int (nI k)) (C := RX1) (T := TX1) (N := 5) hx hb hts i1 hown hK hP 2 rfl rfl 3 (by decide) w1 (fun _ h9 => h9) rfl dX1_advance_148 ?_
                refine lv_iconst (v := 1) hx hb dX1_advance_151 (by decide) ?_
                refine lv_iadd hx hb dX1_advance_152 ?_
                refine endI (r := nI (k + 1)) (nI_add _ _) ?_
                refine va_put (D := D) (ci := 1) (v := .int (nI (k + 1))) (ty := .int) (C := RX1) (T := TX1) (N := 5) hx hb hts i1 tyX1 tyX1_ok nmX1 hown hK hP hD hS 2 rfl rfl 3 (by decide) w1 (fun _ h9 => h9) rfl (by decide +kernel) rfl rfl (Nat.le_of_ble_eq_true rfl) dX1_advance_153 (fun H locs hP hD hS => ?_)
                have hP : va_P D vwCl (WIN T v B O ((3, k, k + 1, g.2.2.2.1, g.2.2.2.2)) ln un nx pl f0 f1 f2) H := hP
                have hD : va_D A (WIN T v B O ((3, k, k + 1, g.2.2.2.1, g.2.2.2.2)) ln un nx pl f0 f1 f2) := hD
                have hE : (WIN T v B O ((3, k, k + 1, g.2.2.2.1, g.2.2.2.2)) ln un nx pl f0 f1 f2 : va_W) = (WIN T v B O (advC f0 ln g) ln un nx pl f0 f1 f2) := by (unfold advC; rw [hT]) <;> first | rfl | (rw [if_neg (by omega)]; done) | (rw [if_pos (by omega)]; done) | (rw [if_pos (by first | exact c135 | (simpa using c135))]; done) | (rw [if_neg (by first | exact c135 | (simpa using c135))]; done)
                exact hret _ _ _ _ dX1_advance_156 (by rw [← hE]; exact hP) (by rw [← hE]; exact hD) hS
            ·
              have c99 := bI_n0.mp c99
              rw [← hx9] at c99
              have hT := tkR_num hR9 hkn c80 c99
              rw [numF_at] at hT
              have hle := (runN_ge (p := digB) (f := f0) (n := ln - k) (k := k))
              refine lv_aload_n hx hb dX1_advance_102 rfl (lv_at hl 1 rfl) ?_
              refine wrVv (As := []) (rest := []) ⟨hx, hb, hml, hown, hts⟩ (c_X1_passDigits l D T v B O ((g.1, k, k, g.2.2.2.1, g.2.2.2.2)) ln un nx pl f0 f1 f2 (by first | omega | assumption | decide) (by first | omega | assumption | decide) _) (cwV 0 hts gX1_advance_X1_passDigits rfl rfl rfl (by decide +kernel) ⟨Nat.le_of_ble_eq_true rfl, Nat.le_of_ble_eq_true rfl⟩) (Foc.rfl _ _) hK hP hD hS hA 2 rfl rfl rfl hl.1 rfl (Nat.le_of_ble_eq_true rfl) ⟨Nat.zero_le _, Nat.zero_le _⟩ dX1_advance_103 (fun H locs hP hD hS => ?_)
              have hP : va_P D vwCl (WIN T v B O ((g.1, k, runN digB f0 (ln - k) k, g.2.2.2.1, g.2.2.2.2)) ln un nx pl f0 f1 f2) H := hP
              have hD : va_D A (WIN T v B O ((g.1, k, runN digB f0 (ln - k) k, g.2.2.2.1, g.2.2.2.2)) ln un nx pl f0 f1 f2) := hD
              refine lv_aload_n hx hb dX1_advance_106 rfl (lv_at hl 1 rfl) ?_
              refine lv_aload_n hx hb dX1_advance_107 rfl (lv_at hl 1 rfl) ?_
              refine va_get (D := D) (ci := 1) (v := .int (nI (runN digB f0 (ln - k) k))) (C := RX1) (T := TX1) (N := 5) hx hb hts i1 hown hK hP 2 rfl rfl 3 (by decide) w1 (fun _ h9 => h9) rfl dX1_advance_108 ?_
              refine lv_aload_n hx hb dX1_advance_111 rfl (lv_at hl 1 rfl) ?_
              refine va_get (D := D) (ci := 1) (v := .int (nI k)) (C := RX1) (T := TX1) (N := 5) hx hb hts i1 hown hK hP 2 rfl rfl 2 (by decide) w2 (fun _ h9 => h9) rfl dX1_advance_112 ?_
              refine lv_isub hx hb dX1_advance_115 ?_
              refine endI (r := nI (runN digB f0 (ln - k) k - k)) (pk_sub (by have := (runN_ge (p := digB) (f := f0) (n := ln - k) (k := k)); omega)) ?_
              refine lv_iconst (v := 2) hx hb dX1_advance_116 (by decide) ?_
              refine lv_icmp_gt (tgt := 124) hx hb dX1_advance_117 (by decide) (fun c117 => ?_) (fun c117 => ?_)
              ·
                have c117 : 2 < (runN digB f0 (ln - k) k - k) := (nI_ltI (a := 2) (b := (runN digB f0 (ln - k) k - k)) (by omega) (by omega)).mp c117
                refine lv_iconst (v := 4) hx hb dX1_advance_124 (by decide) ?_
                refine va_put (D := D) (ci := 1) (v := .int (4)) (ty := .int) (C := RX1) (T := TX1) (N := 5) hx hb hts i1 tyX1 tyX1_ok nmX1 hown hK hP hD hS 2 rfl rfl 1 (by decide) w4 (fun _ h9 => h9) rfl (by decide +kernel) rfl rfl (Nat.le_of_ble_eq_true rfl) dX1_advance_125 (fun H locs hP hD hS => ?_)
                have hP : va_P D vwCl (WIN T v B O ((4, k, runN digB f0 (ln - k) k, g.2.2.2.1, g.2.2.2.2)) ln un nx pl f0 f1 f2) H := hP
                have hD : va_D A (WIN T v B O ((4, k, runN digB f0 (ln - k) k, g.2.2.2.1, g.2.2.2.2)) ln un nx pl f0 f1 f2) := hD
                refine lv_goto (tgt := 156) hx hb dX1_advance_128 (by decide) ?_
                have hE : (WIN T v B O ((4, k, runN digB f0 (ln - k) k, g.2.2.2.1, g.2.2.2.2)) ln un nx pl f0 f1 f2 : va_W) = (WIN T v B O (advC f0 ln g) ln un nx pl f0 f1 f2) := by (unfold advC; rw [hT]) <;> first | rfl | (rw [if_neg (by omega)]; done) | (rw [if_pos (by omega)]; done) | (rw [if_pos (by first | exact c135 | (simpa using c135))]; done) | (rw [if_neg (by first | exact c135 | (simpa using c135))]; done)
                exact hret _ _ _ _ dX1_advance_156 (by rw [← hE]; exact hP) (by rw [← hE]; exact hD) hS
              ·
                have c117 : ¬ 2 < (runN digB f0 (ln - k) k - k) := fun h9 => c117 ((nI_ltI (a := 2) (b := (runN digB f0 (ln - k) k - k)) (by omega) (by omega)).mpr h9)
                refine lv_iconst (v := 2) hx hb dX1_advance_120 (by decide) ?_
                refine lv_goto (tgt := 125) hx hb dX1_advance_121 (by decide) ?_
                refine va_put (D := D) (ci := 1) (v := .int (2)) (ty := .int) (C := RX1) (T := TX1) (N := 5) hx hb hts i1 tyX1 tyX1_ok nmX1 hown hK hP hD hS 2 rfl rfl 1 (by decide) w4 (fun _ h9 => h9) rfl (by decide +kernel) rfl rfl (Nat.le_of_ble_eq_true rfl) dX1_advance_125 (fun H locs hP hD hS => ?_)
                have hP : va_P D vwCl (WIN T v B O ((2, k, runN digB f0 (ln - k) k, g.2.2.2.1, g.2.2.2.2)) ln un nx pl f0 f1 f2) H := hP
                have hD : va_D A (WIN T v B O ((2, k, runN digB f0 (ln - k) k, g.2.2.2.1, g.2.2.2.2)) ln un nx pl f0 f1 f2) := hD
                refine lv_goto (tgt := 156) hx hb dX1_advance_128 (by decide) ?_
                have hE : (WIN T v B O ((2, k, runN digB f0 (ln - k) k, g.2.2.2.1, g.2.2.2.2)) ln un nx pl f0 f1 f2 : va_W) = (WIN T v B O (advC f0 ln g) ln un nx pl f0 f1 f2) := by (unfold advC; rw [hT]) <;> first | rfl | (rw [if_neg (by omega)]; done) | (rw [if_pos (by omega)]; done) | (rw [if_pos (by first | exact c135 | (simpa using c135))]; done) | (rw [if_neg (by first | exact c135 | (simpa using c135))]; done)
                exact hret _ _ _ _ dX1_advance_156 (by rw [← hE]; exact hP) (by rw [← hE]; exact hD) hS
          ·
            have c80 := bI_n0.mp c80
            rw [← hx9] at c80
            have hT := tkR_word hR9 hkn c80
            rw [wordF_at] at hT
            refine lv_aload_n hx hb dX1_advance_83 rfl (lv_at hl 1 rfl) ?_
            refine lv_iconst (v := 1) hx hb dX1_advance_84 (by decide) ?_
            refine va_put (D := D) (ci := 1) (v := .int (1)) (ty := .int) (C := RX1) (T := TX1) (N := 5) hx hb hts i1 tyX1 tyX1_ok nmX1 hown hK hP hD hS 2 rfl rfl 1 (by decide) w4 (fun _ h9 => h9) rfl (by decide +kernel) rfl rfl (Nat.le_of_ble_eq_true rfl) dX1_advance_85 (fun H locs hP hD hS => ?_)
            have hP : va_P D vwCl (WIN T v B O ((1, k, k, g.2.2.2.1, g.2.2.2.2)) ln un nx pl f0 f1 f2) H := hP
            have hD : va_D A (WIN T v B O ((1, k, k, g.2.2.2.1, g.2.2.2.2)) ln un nx pl f0 f1 f2) := hD
            refine lv_aload_n hx hb dX1_advance_88 rfl (lv_at hl 1 rfl) ?_
            refine wrVv (As := []) (rest := []) ⟨hx, hb, hml, hown, hts⟩ (c_X1_passLetters l D T v B O ((1, k, k, g.2.2.2.1, g.2.2.2.2)) ln un nx pl f0 f1 f2 (by first | omega | assumption | decide) (by first | omega | assumption | decide) _) (cwV 0 hts gX1_advance_X1_passLetters rfl rfl rfl (by decide +kernel) ⟨Nat.le_of_ble_eq_true rfl, Nat.le_of_ble_eq_true rfl⟩) (Foc.rfl _ _) hK hP hD hS hA 2 rfl rfl rfl hl.1 rfl (Nat.le_of_ble_eq_true rfl) ⟨Nat.zero_le _, Nat.zero_le _⟩ dX1_advance_89 (fun H locs hP hD hS => ?_)
            have hP : va_P D vwCl (WIN T v B O ((1, k, runN smallB f0 (ln - k) k, g.2.2.2.1, g.2.2.2.2)) ln un nx pl f0 f1 f2) H := hP
            have hD : va_D A (WIN T v B O ((1, k, runN smallB f0 (ln - k) k, g.2.2.2.1, g.2.2.2.2)) ln un nx pl f0 f1 f2) := hD
            refine lv_goto (tgt := 156) hx hb dX1_advance_92 (by decide) ?_
            have hE : (WIN T v B O ((1, k, runN smallB f0 (ln - k) k, g.2.2.2.1, g.2.2.2.2)) ln un nx pl f0 f1 f2 : va_W) = (WIN T v B O (advC f0 ln g) ln un nx pl f0 f1 f2) := by (unfold advC; rw [hT]) <;> first | rfl | (rw [if_neg (by omega)]; done) | (rw [if_pos (by omega)]; done) | (rw [if_pos (by first | exact c135 | (simpa using c135))]; done) | (rw [if_neg (by first | exact c135 | (simpa using c135))]; done)
            exact hret _ _ _ _ dX1_advance_156 (by rw [← hE]; exact hP) (by rw [← hE]; exact hD) hS
        ·
          have hk0 : k = ln := by
            by_cases h : k < ln
            · rw [if_pos h] at hx9; exact absurd (hx9.trans c65) (hby k h)
            · omega
          have hT := tkR_end hR9 hk0
          refine lv_aload_n hx hb dX1_advance_68 rfl (lv_at hl 1 rfl) ?_
          refine lv_iconst (v := 0) hx hb dX1_advance_69 (by decide) ?_
          refine va_put (D := D) (ci := 1) (v := .int (0)) (ty := .int) (C := RX1) (T := TX1) (N := 5) hx hb hts i1 tyX1 tyX1_ok nmX1 hown hK hP hD hS 2 rfl rfl 1 (by decide) w4 (fun _ h9 => h9) rfl (by decide +kernel) rfl rfl (Nat.le_of_ble_eq_true rfl) dX1_advance_70 (fun H locs hP hD hS => ?_)
          have hP : va_P D vwCl (WIN T v B O ((0, k, k, g.2.2.2.1, g.2.2.2.2)) ln un nx pl f0 f1 f2) H := hP
          have hD : va_D A (WIN T v B O ((0, k, k, g.2.2.2.1, g.2.2.2.2)) ln un nx pl f0 f1 f2) := hD
          refine lv_goto (tgt := 156) hx hb dX1_advance_73 (by decide) ?_
          have hE : (WIN T v B O ((0, k, k, g.2.2.2.1, g.2.2.2.2)) ln un nx pl f0 f1 f2 : va_W) = (WIN T v B O (advC f0 ln g) ln un nx pl f0 f1 f2) := by (unfold advC; rw [hT]) <;> first | rfl | (rw [if_neg (by omega)]; done) | (rw [if_pos (by omega)]; done) | (rw [if_pos (by first | exact c135 | (simpa using c135))]; done) | (rw [if_neg (by first | exact c135 | (simpa using c135))]; done)
          exact hret _ _ _ _ dX1_advance_156 (by rw [← hE]; exact hP) (by rw [← hE]; exact hD) hS
      ·
        have c16 : ¬ ln ≤ k := fun h9 => c16 ((nI_leI (a := ln) (b := k) (by omega) (by omega)).mpr h9)
        have c16 : k < ln := by omega
        refine lv_aload_n hx hb dX1_advance_19 rfl (lv_at hl 0 rfl) ?_
        refine lv_aload_n hx hb dX1_advance_20 rfl (lv_at hl 0 rfl) ?_
        refine va_get (D := D) (ci := 1) (v := .int (nI k)) (C := RX1) (T := TX1) (N := 5) hx hb hts i1 hown hK hP 2 rfl rfl 2 (by decide) w2 (fun _ h9 => h9) rfl dX1_advance_21 ?_
        refine rdV (As := [.int (nI k)]) (rest := []) ⟨hx, hb, hml, hown, hts⟩ (c_X1_byteAt l D T v B O ((g.1, k, g.2.2.1, g.2.2.2.1, g.2.2.2.2)) ln un nx pl f0 f1 f2 k (by first | omega | assumption | decide) (by first | omega | assumption | decide)) (cwV 1 hts gX1_advance_X1_byteAt rfl rfl rfl (by decide +kernel) ⟨Nat.le_of_ble_eq_true rfl, Nat.le_of_ble_eq_true rfl⟩) hK hP 2 rfl rfl rfl hl.1 rfl (Nat.le_of_ble_eq_true rfl) ⟨Nat.zero_le _, Nat.zero_le _⟩ dX1_advance_24 ?_
        refine rdT (As := [.int (if k < ln then f0 k else -1)]) (rest := []) ⟨hx, hb, hml, hown, hts⟩ (c_X1_isBlank l D T (if k < ln then f0 k else -1) ) (va_cwS 1 hts gX1_advance_X1_isBlank rfl rfl rfl (by decide +kernel) ⟨Nat.le_of_ble_eq_true rfl, Nat.le_of_ble_eq_true rfl⟩) rfl hl.1 rfl (Nat.le_of_ble_eq_true rfl) ⟨Nat.zero_le _, Nat.zero_le _⟩ dX1_advance_27 ?_
        refine lv_if_eq (tgt := 46) hx hb dX1_advance_30 (by decide) (fun c30 => ?_) (fun c30 => ?_)
        ·
          have c30 := bI_0.mp c30
          rw [if_pos c16] at c30
          have hR9 : runN blankB f0 (ln - g.2.2.1) g.2.2.1 = k := by rw [← hR]; exact runN_stop c30
          refine lv_aload_n hx hb dX1_advance_46 rfl (lv_at hl 0 rfl) ?_
          refine lv_aload_n hx hb dX1_advance_47 rfl (lv_at hl 0 rfl) ?_
          refine va_get (D := D) (ci := 1) (v := .int (nI k)) (C := RX1) (T := TX1) (N := 5) hx hb hts i1 hown hK hP 2 rfl rfl 2 (by decide) w2 (fun _ h9 => h9) rfl dX1_advance_48 ?_
          refine va_put (D := D) (ci := 1) (v := .int (nI k)) (ty := .int) (C := RX1) (T := TX1) (N := 5) hx hb hts i1 tyX1 tyX1_ok nmX1 hown hK hP hD hS 2 rfl rfl 3 (by decide) w1 (fun _ h9 => h9) rfl (by decide +kernel) rfl rfl (Nat.le_of_ble_eq_true rfl) dX1_advance_51 (fun H locs hP hD hS => ?_)
          have hP : va_P D vwCl (WIN T v B O ((g.1, k, k, g.2.2.2.1, g.2.2.2.2)) ln un nx pl f0 f1 f2) H := hP
          have hD : va_D A (WIN T v B O ((g.1, k, k, g.2.2.2.1, g.2.2.2.2)) ln un nx pl f0 f1 f2) := hD
          refine lv_aload_n hx hb dX1_advance_54 rfl (lv_at hl 0 rfl) ?_
          refine lv_aload_n hx hb dX1_advance_55 rfl (lv_at hl 0 rfl) ?_
          refine va_get (D := D) (ci := 1) (v := .int (nI k)) (C := RX1) (T := TX1) (N := 5) hx hb hts i1 hown hK hP 2 rfl rfl 2 (by decide) w2 (fun _ h9 => h9) rfl dX1_advance_56 ?_
          refine rdV (As := [.int (nI k)]) (rest := []) ⟨hx, hb, hml, hown, hts⟩ (c_X1_byteAt l D T v B O ((g.1, k, k, g.2.2.2.1, g.2.2.2.2)) ln un nx pl f0 f1 f2 k (by first | omega | assumption | decide) (by first | omega | assumption | decide)) (cwV 1 hts gX1_advance_X1_byteAt rfl rfl rfl (by decide +kernel) ⟨Nat.le_of_ble_eq_true rfl, Nat.le_of_ble_eq_true rfl⟩) hK hP 2 rfl rfl rfl hl.1 rfl (Nat.le_of_ble_eq_true rfl) ⟨Nat.zero_le _, Nat.zero_le _⟩ dX1_advance_59 ?_
          obtain ⟨x9, hx9⟩ : ∃ x, (if k < ln then f0 k else -1) = x := ⟨_, rfl⟩
          refine endI hx9 ?_
          refine lv_istore_n (lv' := [(1, .int (x9)), (0, .ref (v 2))]) hx hb dX1_advance_62 rfl hl (by decide) rfl (fun ls hl => ?_)
          refine lv_iload_n hx hb dX1_advance_63 rfl (lv_at hl 0 rfl) ?_
          refine lv_iconst (v := -1) hx hb dX1_advance_64 (by decide) ?_
          refine lv_icmp_ne (tgt := 76) hx hb dX1_advance_65 (by decide) (fun c65 => ?_) (fun c65 => ?_)
          ·
            have hk0 : k < ln := by
              by_cases h : k < ln
              · exact h
              · rw [if_neg h] at hx9; exact absurd hx9.symm c65
            rw [if_pos hk0] at hx9
            have hkn : ¬ k = ln := by omega
            refine lv_iload_n hx hb dX1_advance_76 rfl (lv_at hl 0 rfl) ?_
            refine rdT (As := [.int (x9)]) (rest := []) ⟨hx, hb, hml, hown, hts⟩ (c_X1_isLetter l D T x9 ) (va_cwS 1 hts gX1_advance_X1_isLetter rfl rfl rfl (by decide +kernel) ⟨Nat.le_of_ble_eq_true rfl, Nat.le_of_ble_eq_true rfl⟩) rfl hl.1 rfl (Nat.le_of_ble_eq_true rfl) ⟨Nat.zero_le _, Nat.zero_le _⟩ dX1_advance_77 ?_
            refine lv_if_eq (tgt := 95) hx hb dX1_advance_80 (by decide) (fun c80 => ?_) (fun c80 => ?_)
            ·
              have c80 := bI_0.mp c80
              rw [← hx9] at c80
              refine lv_iload_n hx hb dX1_advance_95 rfl (lv_at hl 0 rfl) ?_
              refine rdT (As := [.int (x9)]) (rest := []) ⟨hx, hb, hml, hown, hts⟩ (c_X1_isDigit l D T x9 ) (va_cwS 1 hts gX1_advance_X1_isDigit rfl rfl rfl (by decide +kernel) ⟨Nat.le_of_ble_eq_true rfl, Nat.le_of_ble_eq_true rfl⟩) rfl hl.1 rfl (Nat.le_of_ble_eq_true rfl) ⟨Nat.zero_le _, Nat.zero_le _⟩ dX1_advance_96 ?_
              refine lv_if_eq (tgt := 131) hx hb dX1_advance_99 (by decide) (fun c99 => ?_) (fun c99 => ?_)
              ·
                have c99 := bI_0.mp c99
                rw [← hx9] at c99
                have hT := tkR_other hR9 hkn c80 c99
                refine lv_aload_n hx hb dX1_advance_131 rfl (lv_at hl 1 rfl) ?_
                refine lv_iload_n hx hb dX1_advance_132 rfl (lv_at hl 0 rfl) ?_
                refine lv_bipush (v := 59) hx hb dX1_advance_133 (by decide) ?_
                refine lv_icmp_ne (tgt := 142) hx hb dX1_advance_135 (by decide) (fun c135 => ?_) (fun c135 => ?_)
                ·
                  rw [← hx9] at c135
                  refine lv_iconst (v := 4) hx hb dX1_advance_142 (by decide) ?_
                  refine va_put (D := D) (ci := 1) (v := .int (4)) (ty := .int) (C := RX1) (T := TX1) (N := 5) hx hb hts i1 tyX1 tyX1_ok nmX1 hown hK hP hD hS 2 rfl rfl 1 (by decide) w4 (fun _ h9 => h9) rfl (by decide +kernel) rfl rfl (Nat.le_of_ble_eq_true rfl) dX1_advance_143 (fun H locs hP hD hS => ?_)
                  have hP : va_P D vwCl (WIN T v B O ((4, k, k, g.2.2.2.1, g.2.2.2.2)) ln un nx pl f0 f1 f2) H := hP
                  have hD : va_D A (WIN T v B O ((4, k, k, g.2.2.2.1, g.2.2.2.2)) ln un nx pl f0 f1 f2) := hD
                  refine lv_aload_n hx hb dX1_advance_146 rfl (lv_at hl 1 rfl) ?_
                  refine lv_dup hx hb dX1_advance_147 rfl ?_
                  refine va_get (D := D) (ci := 1) (v := .int (nI k)) (C := RX1) (T := TX1) (N := 5) hx hb hts i1 hown hK hP 2 rfl rfl 3 (by decide) w1 (fun _ h9 => h9) rfl dX1_advance_148 ?_
                  refine lv_iconst (v := 1) hx hb dX1_advance_151 (by decide) ?_
                  refine lv_iadd hx hb dX1_advance_152 ?_
                  refine endI (r := nI (k + 1)) (nI_add _ _) ?_
                  refine va_put (D := D) (ci := 1) (v := .int (nI (k + 1))) (ty := .int) (C := RX1) (T := TX1) (N := 5) hx hb hts i1 tyX1 tyX1_ok nmX1 hown hK hP hD hS 2 rfl rfl 3 (by decide) w1 (fun _ h9 => h9) rfl (by decide +kernel) rfl rfl (Nat.le_of_ble_eq_true rfl) dX1_advance_153 (fun H locs hP hD hS => ?_)
                  have hP : va_P D vwCl (WIN T v B O ((4, k, k + 1, g.2.2.2.1, g.2.2.2.2)) ln un nx pl f0 f1 f2) H := hP
                  have hD : va_D A (WIN T v B O ((4, k, k + 1, g.2.2.2.1, g.2.2.2.2)) ln un nx pl f0 f1 f2) := hD
                  have hE : (WIN T v B O ((4, k, k + 1, g.2.2.2.1, g.2.2.2.2)) ln un nx pl f0 f1 f2 : va_W) = (WIN T v B O (advC f0 ln g) ln un nx pl f0 f1 f2) := by (unfold advC; rw [hT]) <;> first | rfl | (rw [if_neg (by omega)]; done) | (rw [if_pos (by omega)]; done) | (rw [if_pos (by first | exact c135 | (simpa using c135))]; done) | (rw [if_neg (by first | exact c135 | (simpa using c135))]; done)
                  exact hret _ _ _ _ dX1_advance_156 (by rw [← hE]; exact hP) (by rw [← hE]; exact hD) hS
                ·
                  rw [← hx9] at c135
                  refine lv_iconst (v := 3) hx hb dX1_advance_138 (by decide) ?_
                  refine lv_goto (tgt := 143) hx hb dX1_advance_139 (by decide) ?_
                  refine va_put (D := D) (ci := 1) (v := .int (3)) (ty := .int) (C := RX1) (T := TX1) (N := 5) hx hb hts i1 tyX1 tyX1_ok nmX1 hown hK hP hD hS 2 rfl rfl 1 (by decide) w4 (fun _ h9 => h9) rfl (by decide +kernel) rfl rfl (Nat.le_of_ble_eq_true rfl) dX1_advance_143 (fun H locs hP hD hS => ?_)
                  have hP : va_P D vwCl (WIN T v B O ((3, k, k, g.2.2.2.1, g.2.2.2.2)) ln un nx pl f0 f1 f2) H := hP
                  have hD : va_D A (WIN T v B O ((3, k, k, g.2.2.2.1, g.2.2.2.2)) ln un nx pl f0 f1 f2) := hD
                  refine lv_aload_n hx hb dX1_advance_146 rfl (lv_at hl 1 rfl) ?_
                  refine lv_dup hx hb dX1_advance_147 rfl ?_
                  refine va_get (D := D) (ci := 1) (v := .int (nI k)) (C := RX1) (T := TX1) (N := 5) hx hb hts i1 hown hK hP 2 rfl rfl 3 (by decide) w1 (fun _ h9 => h9) rfl dX1_advance_148 ?_
                  refine lv_iconst (v := 1) hx hb dX1_advance_151 (by decide) ?_
                  refine lv_iadd hx hb dX1_advance_152 ?_
                  refine endI (r := nI (k + 1)) (nI_add _ _) ?_
                  refine va_put (D := D) (ci := 1) (v := .int (nI (k + 1))) (ty := .int) (C := RX1) (T := TX1) (N := 5) hx hb hts i1 tyX1 tyX1_ok nmX1 hown hK hP hD hS 2 rfl rfl 3 (by decide) w1 (fun _ h9 => h9) rfl (by decide +kernel) rfl rfl (Nat.le_of_ble_eq_true rfl) dX1_advance_153 (fun H locs hP hD hS => ?_)
                  have hP : va_P D vwCl (WIN T v B O ((3, k, k + 1, g.2.2.2.1, g.2.2.2.2)) ln un nx pl f0 f1 f2) H := hP
                  have hD : va_D A (WIN T v B O ((3, k, k + 1, g.2.2.2.1, g.2.2.2.2)) ln un nx pl f0 f1 f2) := hD
                  have hE : (WIN T v B O ((3, k, k + 1, g.2.2.2.1, g.2.2.2.2)) ln un nx pl f0 f1 f2 : va_W) = (WIN T v B O (advC f0 ln g) ln un nx pl f0 f1 f2) := by (unfold advC; rw [hT]) <;> first | rfl | (rw [if_neg (by omega)]; done) | (rw [if_pos (by omega)]; done) | (rw [if_pos (by first | exact c135 | (simpa using c135))]; done) | (rw [if_neg (by first | exact c135 | (simpa using c135))]; done)
                  exact hret _ _ _ _ dX1_advance_156 (by rw [← hE]; exact hP) (by rw [← hE]; exact hD) hS
              ·
                have c99 := bI_n0.mp c99
                rw [← hx9] at c99
                have hT := tkR_num hR9 hkn c80 c99
                rw [numF_at] at hT
                have hle := (runN_ge (p := digB) (f := f0) (n := ln - k) (k := k))
                refine lv_aload_n hx hb dX1_advance_102 rfl (lv_at hl 1 rfl) ?_
                refine wrVv (As := []) (rest := []) ⟨hx, hb, hml, hown, hts⟩ (c_X1_passDigits l D T v B O ((g.1, k, k, g.2.2.2.1, g.2.2.2.2)) ln un nx pl f0 f1 f2 (by first | omega | assumption | decide) (by first | omega | assumption | decide) _) (cwV 0 hts gX1_advance_X1_passDigits rfl rfl rfl (by decide +kernel) ⟨Nat.le_of_ble_eq_true rfl, Nat.le_of_ble_eq_true rfl⟩) (Foc.rfl _ _) hK hP hD hS hA 2 rfl rfl rfl hl.1 rfl (Nat.le_of_ble_eq_true rfl) ⟨Nat.zero_le _, Nat.zero_le _⟩ dX1_advance_103 (fun H locs hP hD hS => ?_)
                have hP : va_P D vwCl (WIN T v B O ((g.1, k, runN digB f0 (ln - k) k, g.2.2.2.1, g.2.2.2.2)) ln un nx pl f0 f1 f2) H := hP
                have hD : va_D A (WIN T v B O ((g.1, k, runN digB f0 (ln - k) k, g.2.2.2.1, g.2.2.2.2)) ln un nx pl f0 f1 f2) := hD
                refine lv_aload_n hx hb dX1_advance_106 rfl (lv_at hl 1 rfl) ?_
                refine lv_aload_n hx hb dX1_advance_107 rfl (lv_at hl 1 rfl) ?_
                refine va_get (D := D) (ci := 1) (v := .int (nI (runN digB f0 (ln - k) k))) (C := RX1) (T := TX1) (N := 5) hx hb hts i1 hown hK hP 2 rfl rfl 3 (by decide) w1 (fun _ h9 => h9) rfl dX1_advance_108 ?_
                refine lv_aload_n hx hb dX1_advance_111 rfl (lv_at hl 1 rfl) ?_
                refine va_get (D := D) (ci := 1) (v := .int (nI k)) (C := RX1) (T := TX1) (N := 5) hx hb hts i1 hown hK hP 2 rfl rfl 2 (by decide) w2 (fun _ h9 => h9) rfl dX1_advance_112 ?_
                refine lv_isub hx hb dX1_advance_115 ?_
                refine endI (r := nI (runN digB f0 (ln - k) k - k)) (pk_sub (by have := (runN_ge (p := digB) (f := f0) (n := ln - k) (k := k)); omega)) ?_
                refine lv_iconst (v := 2) hx hb dX1_advance_116 (by decide) ?_
                refine lv_icmp_gt (tgt := 124) hx hb dX1_advance_117 (by decide) (fun c117 => ?_) (fun c117 => ?_)
                ·
                  have c117 : 2 < (runN digB f0 (ln - k) k - k) := (nI_ltI (a := 2) (b := (runN digB f0 (ln - k) k - k)) (by omega) (by omega)).mp c117
                  refine lv_iconst (v := 4) hx hb dX1_advance_124 (by decide) ?_
                  refine va_put (D := D) (ci := 1) (v := .int (4)) (ty := .int) (C := RX1) (T := TX1) (N := 5) hx hb hts i1 tyX1 tyX1_ok nmX1 hown hK hP hD hS 2 rfl rfl 1 (by decide) w4 (fun _ h9 => h9) rfl (by decide +kernel) rfl rfl (Nat.le_of_ble_eq_true rfl) dX1_advance_125 (fun H locs hP hD hS => ?_)
                  have hP : va_P D vwCl (WIN T v B O ((4, k, runN digB f0 (ln - k) k, g.2.2.2.1, g.2.2.2.2)) ln un nx pl f0 f1 f2) H := hP
                  have hD : va_D A (WIN T v B O ((4, k, runN digB f0 (ln - k) k, g.2.2.2.1, g.2.2.2.2)) ln un nx pl f0 f1 f2) := hD
                  refine lv_goto (tgt := 156) hx hb dX1_advance_128 (by decide) ?_
                  have hE : (WIN T v B O ((4, k, runN digB f0 (ln - k) k, g.2.2.2.1, g.2.2.2.2)) ln un nx pl f0 f1 f2 : va_W) = (WIN T v B O (advC f0 ln g) ln un nx pl f0 f1 f2) := by (unfold advC; rw [hT]) <;> first | rfl | (rw [if_neg (by omega)]; done) | (rw [if_pos (by omega)]; done) | (rw [if_pos (by first | exact c135 | (simpa using c135))]; done) | (rw [if_neg (by first | exact c135 | (simpa using c135))]; done)
                  exact hret _ _ _ _ dX1_advance_156 (by rw [← hE]; exact hP) (by rw [← hE]; exact hD) hS
                ·
                  have c117 : ¬ 2 < (runN digB f0 (ln - k) k - k) := fun h9 => c117 ((nI_ltI (a := 2) (b := (runN digB f0 (ln - k) k - k)) (by omega) (by omega)).mpr h9)
                  refine lv_iconst (v := 2) hx hb dX1_advance_120 (by decide) ?_
                  refine lv_goto (tgt := 125) hx hb dX1_advance_121 (by decide) ?_
                  refine va_put (D := D) (ci := 1) (v := .int (2)) (ty := .int) (C := RX1) (T := TX1) (N := 5) hx hb hts i1 tyX1 tyX1_ok nmX1 hown hK hP hD hS 2 rfl rfl 1 (by decide) w4 (fun _ h9 => h9) rfl (by decide +kernel) rfl rfl (Nat.le_of_ble_eq_true rfl) dX1_advance_125 (fun H locs hP hD hS => ?_)
                  have hP : va_P D vwCl (WIN T v B O ((2, k, runN digB f0 (ln - k) k, g.2.2.2.1, g.2.2.2.2)) ln un nx pl f0 f1 f2) H := hP
                  have hD : va_D A (WIN T v B O ((2, k, runN digB f0 (ln - k) k, g.2.2.2.1, g.2.2.2.2)) ln un nx pl f0 f1 f2) := hD
                  refine lv_goto (tgt := 156) hx hb dX1_advance_128 (by decide) ?_
                  have hE : (WIN T v B O ((2, k, runN digB f0 (ln - k) k, g.2.2.2.1, g.2.2.2.2)) ln un nx pl f0 f1 f2 : va_W) = (WIN T v B O (advC f0 ln g) ln un nx pl f0 f1 f2) := by (unfold advC; rw [hT]) <;> first | rfl | (rw [if_neg (by omega)]; done) | (rw [if_pos (by omega)]; done) | (rw [if_pos (by first | exact c135 | (simpa using c135))]; done) | (rw [if_neg (by first | exact c135 | (simpa using c135))]; done)
                  exact hret _ _ _ _ dX1_advance_156 (by rw [← hE]; exact hP) (by rw [← hE]; exact hD) hS
            ·
              have c80 := bI_n0.mp c80
              rw [← hx9] at c80
              have hT := tkR_word hR9 hkn c80
              rw [wordF_at] at hT
              refine lv_aload_n hx hb dX1_advance_83 rfl (lv_at hl 1 rfl) ?_
              refine lv_iconst (v := 1) hx hb dX1_advance_84 (by decide) ?_
              refine va_put (D := D) (ci := 1) (v := .int (1)) (ty := .int) (C := RX1) (T := TX1) (N := 5) hx hb hts i1 tyX1 tyX1_ok nmX1 hown hK hP hD hS 2 rfl rfl 1 (by decide) w4 (fun _ h9 => h9) rfl (by decide +kernel) rfl rfl (Nat.le_of_ble_eq_true rfl) dX1_advance_85 (fun H locs hP hD hS => ?_)
              have hP : va_P D vwCl (WIN T v B O ((1, k, k, g.2.2.2.1, g.2.2.2.2)) ln un nx pl f0 f1 f2) H := hP
              have hD : va_D A (WIN T v B O ((1, k, k, g.2.2.2.1, g.2.2.2.2)) ln un nx pl f0 f1 f2) := hD
              refine lv_aload_n hx hb dX1_advance_88 rfl (lv_at hl 1 rfl) ?_
              refine wrVv (As := []) (rest := []) ⟨hx, hb, hml, hown, hts⟩ (c_X1_passLetters l D T v B O ((1, k, k, g.2.2.2.1, g.2.2.2.2)) ln un nx pl f0 f1 f2 (by first | omega | assumption | decide) (by first | omega | assumption | decide) _) (cwV 0 hts gX1_advance_X1_passLetters rfl rfl rfl (by decide +kernel) ⟨Nat.le_of_ble_eq_true rfl, Nat.le_of_ble_eq_true rfl⟩) (Foc.rfl _ _) hK hP hD hS hA 2 rfl rfl rfl hl.1 rfl (Nat.le_of_ble_eq_true rfl) ⟨Nat.zero_le _, Nat.zero_le _⟩ dX1_advance_89 (fun H locs hP hD hS => ?_)
              have hP : va_P D vwCl (WIN T v B O ((1, k, runN smallB f0 (ln - k) k, g.2.2.2.1, g.2.2.2.2)) ln un nx pl f0 f1 f2) H := hP
              have hD : va_D A (WIN T v B O ((1, k, runN smallB f0 (ln - k) k, g.2.2.2.1, g.2.2.2.2)) ln un nx pl f0 f1 f2) := hD
              refine lv_goto (tgt := 156) hx hb dX1_advance_92 (by decide) ?_
              have hE : (WIN T v B O ((1, k, runN smallB f0 (ln - k) k, g.2.2.2.1, g.2.2.2.2)) ln un nx pl f0 f1 f2 : va_W) = (WIN T v B O (advC f0 ln g) ln un nx pl f0 f1 f2) := by (unfold advC; rw [hT]) <;> first | rfl | (rw [if_neg (by omega)]; done) | (rw [if_pos (by omega)]; done) | (rw [if_pos (by first | exact c135 | (simpa using c135))]; done) | (rw [if_neg (by first | exact c135 | (simpa using c135))]; done)
              exact hret _ _ _ _ dX1_advance_156 (by rw [← hE]; exact hP) (by rw [← hE]; exact hD) hS
          ·
            have hk0 : k = ln := by
              by_cases h : k < ln
              · rw [if_pos h] at hx9; exact absurd (hx9.trans c65) (hby k h)
              · omega
            have hT := tkR_end hR9 hk0
            refine lv_aload_n hx hb dX1_advance_68 rfl (lv_at hl 1 rfl) ?_
            refine lv_iconst (v := 0) hx hb dX1_advance_69 (by decide) ?_
            refine va_put (D := D) (ci := 1) (v := .int (0)) (ty := .int) (C := RX1) (T := TX1) (N := 5) hx hb hts i1 tyX1 tyX1_ok nmX1 hown hK hP hD hS 2 rfl rfl 1 (by decide) w4 (fun _ h9 => h9) rfl (by decide +kernel) rfl rfl (Nat.le_of_ble_eq_true rfl) dX1_advance_70 (fun H locs hP hD hS => ?_)
            have hP : va_P D vwCl (WIN T v B O ((0, k, k, g.2.2.2.1, g.2.2.2.2)) ln un nx pl f0 f1 f2) H := hP
            have hD : va_D A (WIN T v B O ((0, k, k, g.2.2.2.1, g.2.2.2.2)) ln un nx pl f0 f1 f2) := hD
            refine lv_goto (tgt := 156) hx hb dX1_advance_73 (by decide) ?_
            have hE : (WIN T v B O ((0, k, k, g.2.2.2.1, g.2.2.2.2)) ln un nx pl f0 f1 f2 : va_W) = (WIN T v B O (advC f0 ln g) ln un nx pl f0 f1 f2) := by (unfold advC; rw [hT]) <;> first | rfl | (rw [if_neg (by omega)]; done) | (rw [if_pos (by omega)]; done) | (rw [if_pos (by first | exact c135 | (simpa using c135))]; done) | (rw [if_neg (by first | exact c135 | (simpa using c135))]; done)
            exact hret _ _ _ _ dX1_advance_156 (by rw [← hE]; exact hP) (by rw [← hE]; exact hD) hS
        ·
          have c30 := bI_n0.mp c30
          rw [if_pos c16] at c30
          refine lv_aload_n hx hb dX1_advance_33 rfl (lv_at hl 0 rfl) ?_
          refine lv_dup hx hb dX1_advance_34 rfl ?_
          refine va_get (D := D) (ci := 1) (v := .int (nI k)) (C := RX1) (T := TX1) (N := 5) hx hb hts i1 hown hK hP 2 rfl rfl 2 (by decide) w2 (fun _ h9 => h9) rfl dX1_advance_35 ?_
          refine lv_iconst (v := 1) hx hb dX1_advance_38 (by decide) ?_
          refine lv_iadd hx hb dX1_advance_39 ?_
          refine endI (r := nI (k + 1)) (nI_add _ _) ?_
          refine va_put (D := D) (ci := 1) (v := .int (nI (k + 1))) (ty := .int) (C := RX1) (T := TX1) (N := 5) hx hb hts i1 tyX1 tyX1_ok nmX1 hown hK hP hD hS 2 rfl rfl 2 (by decide) w2 (fun _ h9 => h9) rfl (by decide +kernel) rfl rfl (Nat.le_of_ble_eq_true rfl) dX1_advance_40 (fun H locs hP hD hS => ?_)
          have hP : va_P D vwCl (WIN T v B O ((g.1, k + 1, g.2.2.1, g.2.2.2.1, g.2.2.2.2)) ln un nx pl f0 f1 f2) H := hP
          have hD : va_D A (WIN T v B O ((g.1, k + 1, g.2.2.1, g.2.2.2.1, g.2.2.2.2)) ln un nx pl f0 f1 f2) := hD
          refine lv_goto (tgt := 8) hx hb dX1_advance_43 (by decide) ?_
          exact ih (k + 1) (by omega) (by omega) (by rw [runN_step c16 c30] at hR; exact hR) _ _ _ hP hD hS (lv_sub hl [0] rfl)
  exact L8 _ g.2.2.1 (Nat.lt_succ_self _) (by omega) (by rfl) _ _ _ hP hD hS (lv_sub hl [0] rfl)

set_option maxHeartbeats 4000000 in
set_option maxRecDepth 100000 in
theorem c_X1_rewind (l : Launch) (D : va_G) (T : Nat → ClassId) (v : Nat → Nat) (B : Nat → Nat → Nat) (O : Nat → Nat → Nat → Int32) (g : CSt) (ln un nx pl : Nat) (f0 f1 f2 : Nat → Int32) (hL2 : ln ≤ 600) (hby : ∀ i, i < ln → ¬ f0 i = -1) (sz : Nat) : Met l yX1_rewind wsX1_rewind ({ frames := 3, cells := 0, slots := 0, locals := 62 } : Room) (va_Pc [.ref (v 2)] (PS D T (WIN T v B O g ln un nx pl f0 f1 f2) sz)) (va_Qv (fun (_ : Unit) => True) (fun _ t => QS D T (va_A (WIN T v B O g ln un nx pl f0 f1 f2) sz) (WIN T v B O (rewC f0 ln g) ln un nx pl f0 f1 f2) t) (va_A (WIN T v B O g ln un nx pl f0 f1 f2) sz)) 0 0 (va_A (WIN T v B O g ln un nx pl f0 f1 f2) sz) := by
  refine metSv (cc := cX1_rewind) (maxL := 1) (by decide) rfl (Nat.le_of_ble_eq_true rfl) ?_
  intro p e s m args below meth c Q ls A hx hb hml hown hts hP hK hD hA hS hl hret
  have hown : s.vm.findClass RX1 = some m.cls := hown
  have hl : lv_has ls 1 [(0, .ref (v 2))] := hl
  have i1 : ∀ w ∈ wsX10, w ∈ wsX1_rewind := by decide +kernel
  have w1 := hts (Cond.fieldLink RX1 23 "MoonComplaintWindow$Input" "end" "I") (List.mem_of_getElem? (i := 1) rfl)
  refine lv_aload_n hx hb dX1_rewind_0 rfl (lv_at hl 0 rfl) ?_
  refine lv_iconst (v := 0) hx hb dX1_rewind_1 (by decide) ?_
  refine va_put (D := D) (ci := 1) (v := .int (0)) (ty := .int) (C := RX1) (T := TX1) (N := 5) hx hb hts i1 tyX1 tyX1_ok nmX1 hown hK hP hD hS 2 rfl rfl 3 (by decide) w1 (fun _ h9 => h9) rfl (by decide +kernel) rfl rfl (Nat.le_of_ble_eq_true rfl) dX1_rewind_2 (fun H locs hP hD hS => ?_)
  have hP : va_P D vwCl (WIN T v B O ((g.1, g.2.1, 0, g.2.2.2.1, g.2.2.2.2)) ln un nx pl f0 f1 f2) H := hP
  have hD : va_D A (WIN T v B O ((g.1, g.2.1, 0, g.2.2.2.1, g.2.2.2.2)) ln un nx pl f0 f1 f2) := hD
  refine lv_aload_n hx hb dX1_rewind_5 rfl (lv_at hl 0 rfl) ?_
  refine wrVv (As := []) (rest := []) ⟨hx, hb, hml, hown, hts⟩ (c_X1_advance l D T v B O ((g.1, g.2.1, 0, g.2.2.2.1, g.2.2.2.2)) ln un nx pl f0 f1 f2 hL2 (Nat.zero_le _) hby _) (cwV 0 hts gX1_rewind_X1_advance rfl rfl rfl (by decide +kernel) ⟨Nat.le_of_ble_eq_true rfl, Nat.le_of_ble_eq_true rfl⟩) (Foc.rfl _ _) hK hP hD hS hA 2 rfl rfl rfl hl.1 rfl (Nat.le_of_ble_eq_true rfl) ⟨Nat.zero_le _, Nat.zero_le _⟩ dX1_rewind_6 (fun H locs hP hD hS => ?_)
  have hP : va_P D vwCl (WIN T v B O (advC f0 ln ((g.1, g.2.1, 0, g.2.2.2.1, g.2.2.2.2))) ln un nx pl f0 f1 f2) H := hP
  have hD : va_D A (WIN T v B O (advC f0 ln ((g.1, g.2.1, 0, g.2.2.2.1, g.2.2.2.2))) ln un nx pl f0 f1 f2) := hD
  have hE : (WIN T v B O (advC f0 ln ((g.1, g.2.1, 0, g.2.2.2.1, g.2.2.2.2))) ln un nx pl f0 f1 f2 : va_W) = (WIN T v B O (rewC f0 ln g) ln un nx pl f0 f1 f2) := by rfl
  exact hret _ _ _ _ dX1_rewind_9 (by rw [← hE]; exact hP) (by rw [← hE]; exact hD) hS

set_option maxHeartbeats 4000000 in
set_option maxRecDepth 100000 in
theorem c_X1_number (l : Launch) (D : va_G) (T : Nat → ClassId) (v : Nat → Nat) (B : Nat → Nat → Nat) (O : Nat → Nat → Nat → Int32) (g : CSt) (ln un nx pl : Nat) (f0 f1 f2 : Nat → Int32) (hL2 : ln ≤ 600) (hgo : gOK ln g) : Met l yX1_number wsX1_number ({ frames := 1, cells := 0, slots := 0, locals := 21 } : Room) (va_Pc [.ref (v 2)] (PR D T (WIN T v B O g ln un nx pl f0 f1 f2))) (QcRead (numC f0 g)) 0 0 (fun _ => False) := by
  refine metR (cc := cX1_number) (maxL := 3) (ty := .int) (by decide) rfl (by rfl) (Nat.le_of_ble_eq_true rfl) ?_
  intro p e s m args below meth c Q ls hx hb hml hown hts hP hK hl hret
  have hown : s.vm.findClass RX1 = some m.cls := hown
  have hl : lv_has ls 3 [(0, .ref (v 2))] := hl
  have i1 : ∀ w ∈ wsX10, w ∈ wsX1_number := by decide +kernel
  have w1 := hts (Cond.fieldLink RX1 40 "MoonComplaintWindow$Input" "kind" "I") (List.mem_of_getElem? (i := 1) rfl)
  have w2 := hts (Cond.fieldLink RX1 29 "MoonComplaintWindow$Input" "start" "I") (List.mem_of_getElem? (i := 2) rfl)
  have w3 := hts (Cond.fieldLink RX1 23 "MoonComplaintWindow$Input" "end" "I") (List.mem_of_getElem? (i := 3) rfl)
  obtain ⟨hg1, hg2⟩ := hgo
  refine lv_aload_n hx hb dX1_number_0 rfl (lv_at hl 0 rfl) ?_
  refine va_get (D := D) (ci := 1) (v := .int (g.1)) (C := RX1) (T := TX1) (N := 5) hx hb hts i1 hown hK hP 2 rfl rfl 1 (by decide) w1 (fun _ h9 => h9) rfl dX1_number_1 ?_
  refine lv_iconst (v := 2) hx hb dX1_number_4 (by decide) ?_
  refine lv_icmp_eq (tgt := 10) hx hb dX1_number_5 (by decide) (fun c5 => ?_) (fun c5 => ?_)
  ·
    refine lv_iconst (v := 0) hx hb dX1_number_10 (by decide) ?_
    refine lv_istore_n (lv' := [(1, .int (0)), (0, .ref (v 2))]) hx hb dX1_number_11 rfl hl (by decide) rfl (fun ls hl => ?_)
    refine lv_aload_n hx hb dX1_number_12 rfl (lv_at hl 1 rfl) ?_
    refine va_get (D := D) (ci := 1) (v := .int (nI g.2.1)) (C := RX1) (T := TX1) (N := 5) hx hb hts i1 hown hK hP 2 rfl rfl 2 (by decide) w2 (fun _ h9 => h9) rfl dX1_number_13 ?_
    refine lv_istore_n (lv' := [(2, .int (nI g.2.1)), (1, .int (0)), (0, .ref (v 2))]) hx hb dX1_number_16 rfl hl (by decide) rfl (fun ls hl => ?_)
    have L17 : ∀ (n9 : Nat) (i : Nat) (x : Int32), (g.2.2.1 - i) < n9 → (i ≤ g.2.2.1) → (g.2.1 ≤ i) → (nbC f0 (g.2.2.1 - i) i x = nbC f0 (g.2.2.1 - g.2.1) g.2.1 0) → ∀ (ls : Array Slot), lv_has ls 3 [(2, .int (nI i)), (1, .int (x)), (0, .ref (v 2))] → W p l e ({ frames := 1, cells := 0, slots := 0, locals := 21 } : Room) s m args below meth c s.heap [] 0 0 Q (F0 m 17 ls []) := by
      intro n9
      induction n9 with
      | zero => intro i x hm9; exact absurd hm9 (Nat.not_lt_zero _)
      | succ n9 ih =>
        intro i x hm9 hi9 hi8 hR ls hl
        refine lv_iload_n hx hb dX1_number_17 rfl (lv_at hl 0 rfl) ?_
        refine lv_aload_n hx hb dX1_number_18 rfl (lv_at hl 2 rfl) ?_
        refine va_get (D := D) (ci := 1) (v := .int (nI g.2.2.1)) (C := RX1) (T := TX1) (N := 5) hx hb hts i1 hown hK hP 2 rfl rfl 3 (by decide) w3 (fun _ h9 => h9) rfl dX1_number_19 ?_
        refine lv_icmp_ge (tgt := 45) hx hb dX1_number_22 (by decide) (fun c22 => ?_) (fun c22 => ?_)
        ·
          have c22 : g.2.2.1 ≤ i := (nI_leI (a := g.2.2.1) (b := i) (by omega) (by omega)).mp c22
          refine lv_iload_n hx hb dX1_number_45 rfl (lv_at hl 1 rfl) ?_
          refine endI (r := numC f0 g) (by first | (unfold numC; rw [if_neg c5]; done) | (unfold numC; rw [if_pos c5]; rw [nbC_done (by omega)] at hR; exact hR)) ?_
          exact hret ls _ dX1_number_46
        ·
          have c22 : ¬ g.2.2.1 ≤ i := fun h9 => c22 ((nI_leI (a := g.2.2.1) (b := i) (by omega) (by omega)).mpr h9)
          have c22 : i < g.2.2.1 := by omega
          refine lv_iload_n hx hb dX1_number_25 rfl (lv_at hl 1 rfl) ?_
          refine lv_bipush (v := 10) hx hb dX1_number_26 (by decide) ?_
          refine lv_imul hx hb dX1_number_28 ?_
          refine lv_aload_n hx hb dX1_number_29 rfl (lv_at hl 2 rfl) ?_
          refine lv_iload_n hx hb dX1_number_30 rfl (lv_at hl 0 rfl) ?_
          refine rdV (As := [.int (nI i)]) (rest := [.int (x * 10)]) ⟨hx, hb, hml, hown, hts⟩ (c_X1_byteAt l D T v B O g ln un nx pl f0 f1 f2 i (by first | omega | assumption | decide) (by first | omega | assumption | decide)) (cwV 1 hts gX1_number_X1_byteAt rfl rfl rfl (by decide +kernel) ⟨Nat.le_of_ble_eq_true rfl, Nat.le_of_ble_eq_true rfl⟩) hK hP 2 rfl rfl rfl hl.1 rfl (Nat.le_of_ble_eq_true rfl) ⟨Nat.zero_le _, Nat.zero_le _⟩ dX1_number_31 ?_
          refine endI (r := f0 i) (if_pos (by omega)) ?_
          refine lv_iadd hx hb dX1_number_34 ?_
          refine lv_bipush (v := 48) hx hb dX1_number_35 (by decide) ?_
          refine lv_isub hx hb dX1_number_37 ?_
          refine lv_istore_n (lv' := [(1, .int (((x * 10) + (f0 i)) - 48)), (2, .int (nI i)), (0, .ref (v 2))]) hx hb dX1_number_38 rfl hl (by decide) rfl (fun ls hl => ?_)
          refine lv_iinc (v := nI (i + 1)) (lv' := [(2, .int (nI (i + 1))), (1, .int (((x * 10) + (f0 i)) - 48)), (0, .ref (v 2))]) hx hb dX1_number_39 hl (k := 1) rfl (nI_1 _) (by decide) rfl (fun ls hl => ?_)
          refine lv_goto (tgt := 17) hx hb dX1_number_42 (by decide) ?_
          exact ih (i + 1) (((x * 10) + (f0 i)) - 48) (by omega) (by omega) (by omega) (by rw [nbC_step c22] at hR; exact hR) _ (lv_sub hl [0, 1, 2] rfl)
    exact L17 _ g.2.1 0 (Nat.lt_succ_self _) (by omega) (by omega) (by rfl) _ (lv_sub hl [0, 1, 2] rfl)
  ·
    refine lv_iconst (v := -1) hx hb dX1_number_8 (by decide) ?_
    refine endI (r := numC f0 g) (by first | (unfold numC; rw [if_neg c5]; done) | (unfold numC; rw [if_pos c5]; rw [nbC_done (by omega)] at hR; exact hR)) ?_
    exact hret ls _ dX1_number_9

set_option maxHeartbeats 4000000 in
set_option maxRecDepth 100000 in
theorem c_X1_isWord (l : Launch) (D : va_G) (T : Nat → ClassId) (aK aV : Nat → Nat) (v : Nat → Nat) (B : Nat → Nat → Nat) (O : Nat → Nat → Nat → Int32) (g : CSt) (ln un nx pl : Nat) (f0 f1 f2 : Nat → Int32) (i : Nat) (hL2 : ln ≤ 600) (hgo : gOK ln g) (hi : i < 9) (sz : Nat) : Met l yX1_isWord wsX1_isWord ({ frames := 4, cells := 0, slots := 0, locals := 85 } : Room) (va_Pc [.ref (v 2), .ref (aK i)] (PSc D T aK aV (WIN T v B O g ln un nx pl f0 f1 f2) sz)) (va_Qi (fun r9 (_ : Unit) => r9 = (bI (wordC f0 i g))) (fun _ t => QS D T (va_A (WIN T v B O g ln un nx pl f0 f1 f2) sz) (WIN T v B O g ln un nx pl f0 f1 f2) t) (va_A (WIN T v B O g ln un nx pl f0 f1 f2) sz)) 0 0 (va_A (WIN T v B O g ln un nx pl f0 f1 f2) sz) := by
  refine metCi (cc := cX1_isWord) (maxL := 3) (ty := .boolean) (by decide) rfl (by exact bI_nb _) (Nat.le_of_ble_eq_true rfl) ?_
  intro p e s m args below meth c Q ls A hx hb hml hown hts hC hP hK hD hA hS hl hret
  have hown : s.vm.findClass RX1 = some m.cls := hown
  have hl : lv_has ls 3 [(0, .ref (v 2)), (1, .ref (aK i))] := hl
  have i1 : ∀ w ∈ wsX10, w ∈ wsX1_isWord := by decide +kernel
  have w1 := hts (Cond.fieldLink RX1 40 "MoonComplaintWindow$Input" "kind" "I") (List.mem_of_getElem? (i := 1) rfl)
  have w2 := hts (Cond.fieldLink RX1 23 "MoonComplaintWindow$Input" "end" "I") (List.mem_of_getElem? (i := 2) rfl)
  have w3 := hts (Cond.fieldLink RX1 29 "MoonComplaintWindow$Input" "start" "I") (List.mem_of_getElem? (i := 3) rfl)
  obtain ⟨hg1, hg2⟩ := hgo
  refine lv_aload_n hx hb dX1_isWord_0 rfl (lv_at hl 0 rfl) ?_
  refine va_get (D := D) (ci := 1) (v := .int (g.1)) (C := RX1) (T := TX1) (N := 5) hx hb hts i1 hown hK hP 2 rfl rfl 1 (by decide) w1 (fun _ h9 => h9) rfl dX1_isWord_1 ?_
  refine lv_iconst (v := 1) hx hb dX1_isWord_4 (by decide) ?_
  refine lv_icmp_ne (tgt := 24) hx hb dX1_isWord_5 (by decide) (fun c5 => ?_) (fun c5 => ?_)
  ·
    refine lv_iconst (v := 0) hx hb dX1_isWord_24 (by decide) ?_
    refine endI (r := bI (wordC f0 i g)) (by first | (simp [bI, wordC, c5]; done) | (rw [eqF_done (by omega)] at hR; simp [bI, wordC, ← hR, c5]; done) | (rw [eqF_stop c33 c51] at hR; simp [bI, wordC, ← hR, c5]; done)) ?_
    exact hret _ _ _ _ dX1_isWord_25 hP hD hS
  ·
    refine lv_aload_n hx hb dX1_isWord_8 rfl (lv_at hl 0 rfl) ?_
    refine va_get (D := D) (ci := 1) (v := .int (nI g.2.2.1)) (C := RX1) (T := TX1) (N := 5) hx hb hts i1 hown hK hP 2 rfl rfl 3 (by decide) w2 (fun _ h9 => h9) rfl dX1_isWord_9 ?_
    refine lv_aload_n hx hb dX1_isWord_12 rfl (lv_at hl 0 rfl) ?_
    refine va_get (D := D) (ci := 1) (v := .int (nI g.2.1)) (C := RX1) (T := TX1) (N := 5) hx hb hts i1 hown hK hP 2 rfl rfl 2 (by decide) w3 (fun _ h9 => h9) rfl dX1_isWord_13 ?_
    refine lv_isub hx hb dX1_isWord_16 ?_
    refine endI (r := nI (g.2.2.1 - g.2.1)) (pk_sub (by omega)) ?_
    refine lv_aload_n hx hb dX1_isWord_17 rfl (lv_at hl 1 rfl) ?_
    refine rdBV (C := RJ0) (As := []) (rest := [.int (nI (g.2.2.1 - g.2.1))]) (STF.bl (aK i) (aV i) (litN i) (litF i) nA) ⟨hx, hb, hml, hown, hts⟩ (c_J0_length_8abf5 l (aK i) (aV i) (litN i) (litF i)) (cwV 0 hts gX1_isWord_J0_length_8abf5 rfl rfl rfl (by decide +kernel) ⟨Nat.le_of_ble_eq_true rfl, Nat.le_of_ble_eq_true rfl⟩) (fun U hU hv => STF.str hC hS hi hU hv) (STF.recv hC hS hi) rfl hl.1 rfl (Nat.le_of_ble_eq_true rfl) ⟨Nat.zero_le _, Nat.zero_le _⟩ dX1_isWord_18 ?_
    refine lv_icmp_eq (tgt := 26) hx hb dX1_isWord_21 (by decide) (fun c21 => ?_) (fun c21 => ?_)
    ·
      have c21 : (g.2.2.1 - g.2.1) = (litN i) := (nI_eq (a := (g.2.2.1 - g.2.1)) (b := (litN i)) (by first | omega | (have := (lit_ok i hi).1; omega)) (by first | omega | (have := (lit_ok i hi).1; omega))).mp c21
      refine lv_iconst (v := 0) hx hb dX1_isWord_26 (by decide) ?_
      refine lv_istore_n (lv' := [(2, .int (0)), (0, .ref (v 2)), (1, .ref (aK i))]) hx hb dX1_isWord_27 rfl hl (by decide) rfl (fun ls hl => ?_)
      have L28 : ∀ (n9 : Nat) (j : Nat), (litN i - j) < n9 → (j ≤ litN i) → (eqF f0 g.2.1 (litF i) (litN i - j) j = eqF f0 g.2.1 (litF i) (litN i) 0) → ∀ (H : Heap) (locs : List Loc) (ls : Array Slot), va_P D vwCl (WIN T v B O g ln un nx pl f0 f1 f2) H → va_D A (WIN T v B O g ln un nx pl f0 f1 f2) → va_S A s.heap H locs → lv_has ls 3 [(2, .int (nI j)), (0, .ref (v 2)), (1, .ref (aK i))] → W p l e ({ frames := 4, cells := 0, slots := 0, locals := 85 } : Room) s m args below meth c H locs 0 0 Q (F0 m 28 ls []) := by
        intro n9
        induction n9 with
        | zero => intro j hm9; exact absurd hm9 (Nat.not_lt_zero _)
        | succ n9 ih =>
          intro j hm9 hj9 hR H locs ls hP hD hS hl
          refine lv_iload_n hx hb dX1_isWord_28 rfl (lv_at hl 0 rfl) ?_
          refine lv_aload_n hx hb dX1_isWord_29 rfl (lv_at hl 2 rfl) ?_
          refine rdBV (C := RJ0) (As := []) (rest := [.int (nI j)]) (STF.bl (aK i) (aV i) (litN i) (litF i) nA) ⟨hx, hb, hml, hown, hts⟩ (c_J0_length_8abf5 l (aK i) (aV i) (litN i) (litF i)) (cwV 0 hts gX1_isWord_J0_length_8abf5 rfl rfl rfl (by decide +kernel) ⟨Nat.le_of_ble_eq_true rfl, Nat.le_of_ble_eq_true rfl⟩) (fun U hU hv => STF.str hC hS hi hU hv) (STF.recv hC hS hi) rfl hl.1 rfl (Nat.le_of_ble_eq_true rfl) ⟨Nat.zero_le _, Nat.zero_le _⟩ dX1_isWord_30 ?_
          refine lv_icmp_ge (tgt := 62) hx hb dX1_isWord_33 (by decide) (fun c33 => ?_) (fun c33 => ?_)
          ·
            have c33 : (litN i) ≤ j := (nI_leI (a := (litN i)) (b := j) (by first | omega | (have := (lit_ok i hi).1; omega)) (by first | omega | (have := (lit_ok i hi).1; omega))).mp c33
            refine lv_iconst (v := 1) hx hb dX1_isWord_62 (by decide) ?_
            refine endI (r := bI (wordC f0 i g)) (by first | (simp [bI, wordC, c5, c21, c33]; done) | (rw [eqF_done (by omega)] at hR; simp [bI, wordC, ← hR, c5, c21, c33]; done) | (rw [eqF_stop c33 c51] at hR; simp [bI, wordC, ← hR, c5, c21, c33]; done)) ?_
            exact hret _ _ _ _ dX1_isWord_63 hP hD hS
          ·
            have c33 : ¬ (litN i) ≤ j := fun h9 => c33 ((nI_leI (a := (litN i)) (b := j) (by first | omega | (have := (lit_ok i hi).1; omega)) (by first | omega | (have := (lit_ok i hi).1; omega))).mpr h9)
            have c33 : j < litN i := by omega
            refine lv_aload_n hx hb dX1_isWord_36 rfl (lv_at hl 1 rfl) ?_
            refine lv_aload_n hx hb dX1_isWord_37 rfl (lv_at hl 1 rfl) ?_
            refine va_get (D := D) (ci := 1) (v := .int (nI g.2.1)) (C := RX1) (T := TX1) (N := 5) hx hb hts i1 hown hK hP 2 rfl rfl 2 (by decide) w3 (fun _ h9 => h9) rfl dX1_isWord_38 ?_
            refine lv_iload_n hx hb dX1_isWord_41 rfl (lv_at hl 0 rfl) ?_
            refine lv_iadd hx hb dX1_isWord_42 ?_
            refine endI (r := nI (g.2.1 + j)) (nI_add _ _) ?_
            refine rdV (As := [.int (nI (g.2.1 + j))]) (rest := []) ⟨hx, hb, hml, hown, hts⟩ (c_X1_byteAt l D T v B O g ln un nx pl f0 f1 f2 (g.2.1 + j) (by first | omega | assumption | decide) (by first | omega | assumption | decide)) (cwV 1 hts gX1_isWord_X1_byteAt rfl rfl rfl (by decide +kernel) ⟨Nat.le_of_ble_eq_true rfl, Nat.le_of_ble_eq_true rfl⟩) hK hP 2 rfl rfl rfl hl.1 rfl (Nat.le_of_ble_eq_true rfl) ⟨Nat.zero_le _, Nat.zero_le _⟩ dX1_isWord_43 ?_
            refine endI (r := f0 (g.2.1 + j)) (if_pos (by omega)) ?_
            refine lv_aload_n hx hb dX1_isWord_46 rfl (lv_at hl 2 rfl) ?_
            refine lv_iload_n hx hb dX1_isWord_47 rfl (lv_at hl 0 rfl) ?_
            refine rdBV (C := RJ0) (As := [.int (nI j)]) (rest := [.int (f0 (g.2.1 + j))]) (STF.bl (aK i) (aV i) (litN i) (litF i) nA) ⟨hx, hb, hml, hown, hts⟩ (c_J0_charAt_5068e l (aK i) (aV i) (litN i) (litF i) j (by omega) (by have := (lit_ok i hi).1; omega) ((lit_ok i hi).2 j (by omega))) (cwV 1 hts gX1_isWord_J0_charAt_5068e rfl rfl rfl (by decide +kernel) ⟨Nat.le_of_ble_eq_true rfl, Nat.le_of_ble_eq_true rfl⟩) (fun U hU hv => STF.str hC hS hi hU hv) (STF.recv hC hS hi) rfl hl.1 rfl (Nat.le_of_ble_eq_true rfl) ⟨Nat.zero_le _, Nat.zero_le _⟩ dX1_isWord_48 ?_
            refine lv_icmp_eq (tgt := 56) hx hb dX1_isWord_51 (by decide) (fun c51 => ?_) (fun c51 => ?_)
            ·
              refine lv_iinc (v := nI (j + 1)) (lv' := [(2, .int (nI (j + 1))), (0, .ref (v 2)), (1, .ref (aK i))]) hx hb dX1_isWord_56 hl (k := 0) rfl (nI_1 _) (by decide) rfl (fun ls hl => ?_)
              refine lv_goto (tgt := 28) hx hb dX1_isWord_59 (by decide) ?_
              exact ih (j + 1) (by omega) (by omega) (by rw [eqF_step c33 c51] at hR; exact hR) _ _ _ hP hD hS (lv_sub hl [0, 1, 2] rfl)
            ·
              refine lv_iconst (v := 0) hx hb dX1_isWord_54 (by decide) ?_
              refine endI (r := bI (wordC f0 i g)) (by first | (simp [bI, wordC, c5, c21, c33, c51]; done) | (rw [eqF_done (by omega)] at hR; simp [bI, wordC, ← hR, c5, c21, c33, c51]; done) | (rw [eqF_stop c33 c51] at hR; simp [bI, wordC, ← hR, c5, c21, c33, c51]; done)) ?_
              exact hret _ _ _ _ dX1_isWord_55 hP hD hS
      exact L28 _ 0 (Nat.lt_succ_self _) (by omega) (by rfl) _ _ _ hP hD hS (lv_sub hl [0, 1, 2] rfl)
    ·
      have c21 : ¬ (g.2.2.1 - g.2.1) = (litN i) := fun h9 => c21 ((nI_eq (a := (g.2.2.1 - g.2.1)) (b := (litN i)) (by first | omega | (have := (lit_ok i hi).1; omega)) (by first | omega | (have := (lit_ok i hi).1; omega))).mpr h9)
      refine lv_iconst (v := 0) hx hb dX1_isWord_24 (by decide) ?_
      refine endI (r := bI (wordC f0 i g)) (by first | (simp [bI, wordC, c5, c21]; done) | (rw [eqF_done (by omega)] at hR; simp [bI, wordC, ← hR, c5, c21]; done) | (rw [eqF_stop c33 c51] at hR; simp [bI, wordC, ← hR, c5, c21]; done)) ?_
      exact hret _ _ _ _ dX1_isWord_25 hP hD hS
