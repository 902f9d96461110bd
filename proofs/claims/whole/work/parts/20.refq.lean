set_option maxHeartbeats 4000000 in
set_option maxRecDepth 100000 in
theorem c_X10_isSmall (l : Launch) (D : va_G) (T : Nat → ClassId) (b : Nat → Nat) (y : Nat → Nat → Int32) (g : PSt) (k : Nat) (L : Nat) (hL : y 0 1 = nI L) (hL2 : L ≤ 600) (hk : k ≤ 600) : Met l yX10_isSmall wsX10_isSmall ({ frames := 0, cells := 0, slots := 0, locals := 0 } : Room) (va_Pc [.ref (b 0), .int (nI k)] (PR D T (PARW T b y g))) (QcRead (bI (decide (k < L) && smallB (y 7 k)))) 0 0 (fun _ => False) := by
  refine metR (cc := cX10_isSmall) (maxL := 2) (ty := .boolean) (by decide) rfl (by exact bI_nb _) (Nat.le_of_ble_eq_true rfl) ?_
  intro p e s m args below meth c Q ls hx hb hml hown hts hP hK hl hret
  have hown : s.vm.findClass RX10 = some m.cls := hown
  have hl : lv_has ls 2 [(0, .ref (b 0)), (1, .int (nI k))] := hl
  have i10 : ∀ w ∈ wsX100, w ∈ wsX10_isSmall := by decide +kernel
  have w1 := hts (Cond.fieldLink RX10 166 "MoonComplaintWindowModel" "length" "I") (List.mem_of_getElem? (i := 1) rfl)
  have w2 := hts (Cond.fieldLink RX10 29 "MoonComplaintWindowModel" "buffer" "[I") (List.mem_of_getElem? (i := 2) rfl)
  refine lv_iload_n hx hb dX10_isSmall_0 rfl (lv_at hl 1 rfl) ?_
  refine lv_aload_n hx hb dX10_isSmall_1 rfl (lv_at hl 0 rfl) ?_
  refine va_get (D := D) (ci := 10) (v := .int (y 0 1)) (C := RX10) (T := TX10) (N := 19) hx hb hts i10 hown hK hP 0 rfl rfl 8 (by decide) w1 (fun _ h9 => h9) rfl dX10_isSmall_2 ?_
  refine endI (r := nI L) (hL) ?_
  refine lv_icmp_ge (tgt := 34) hx hb dX10_isSmall_5 (by decide) (fun c5 => ?_) (fun c5 => ?_)
  ·
    have c5 : L ≤ k := (nI_leI (a := L) (b := k) (by omega) (by omega)).mp c5
    have d5 : ¬ k < L := by omega
    refine lv_iconst (v := 0) hx hb dX10_isSmall_34 (by decide) ?_
    refine endI (r := bI (decide (k < L) && smallB (y 7 k))) (by (first | have c5x := Int32.not_lt.mp c5 | have c5x := Int32.not_le.mp c5 | have c5x := Int32.not_lt.mpr c5 | have c5x := Int32.not_le.mpr c5 | have c5x := c5); simp [bI, smallB, d5, c5, c5x]) ?_
    exact hret ls _ dX10_isSmall_35
  ·
    have c5 : ¬ L ≤ k := fun h9 => c5 ((nI_leI (a := L) (b := k) (by omega) (by omega)).mpr h9)
    have d5 : k < L := by omega
    refine lv_aload_n hx hb dX10_isSmall_8 rfl (lv_at hl 0 rfl) ?_
    refine va_get (D := D) (ci := 10) (v := .ref (b 7)) (C := RX10) (T := TX10) (N := 19) hx hb hts i10 hown hK hP 0 rfl rfl 7 (by decide) w2 (fun _ h9 => h9) rfl dX10_isSmall_9 ?_
    refine lv_iload_n hx hb dX10_isSmall_12 rfl (lv_at hl 1 rfl) ?_
    refine aldI hx hb hK hP 7 0 rfl rfl (k) rfl (by omega) (by decide) dX10_isSmall_13 ?_
    refine endI (r := y 7 k) rfl ?_
    refine lv_bipush (v := 97) hx hb dX10_isSmall_14 (by decide) ?_
    refine lv_icmp_lt (tgt := 34) hx hb dX10_isSmall_16 (by decide) (fun c16 => ?_) (fun c16 => ?_)
    ·
      refine lv_iconst (v := 0) hx hb dX10_isSmall_34 (by decide) ?_
      refine endI (r := bI (decide (k < L) && smallB (y 7 k))) (by (first | have c5x := Int32.not_lt.mp c5 | have c5x := Int32.not_le.mp c5 | have c5x := Int32.not_lt.mpr c5 | have c5x := Int32.not_le.mpr c5 | have c5x := c5); (first | have c16x := Int32.not_lt.mp c16 | have c16x := Int32.not_le.mp c16 | have c16x := Int32.not_lt.mpr c16 | have c16x := Int32.not_le.mpr c16 | have c16x := c16); simp [bI, smallB, d5, c5, c16, c5x, c16x]) ?_
      exact hret ls _ dX10_isSmall_35
    ·
      refine lv_aload_n hx hb dX10_isSmall_19 rfl (lv_at hl 0 rfl) ?_
      refine va_get (D := D) (ci := 10) (v := .ref (b 7)) (C := RX10) (T := TX10) (N := 19) hx hb hts i10 hown hK hP 0 rfl rfl 7 (by decide) w2 (fun _ h9 => h9) rfl dX10_isSmall_20 ?_
      refine lv_iload_n hx hb dX10_isSmall_23 rfl (lv_at hl 1 rfl) ?_
      refine aldI hx hb hK hP 7 0 rfl rfl (k) rfl (by omega) (by decide) dX10_isSmall_24 ?_
      refine endI (r := y 7 k) rfl ?_
      refine lv_bipush (v := 122) hx hb dX10_isSmall_25 (by decide) ?_
      refine lv_icmp_gt (tgt := 34) hx hb dX10_isSmall_27 (by decide) (fun c27 => ?_) (fun c27 => ?_)
      ·
        refine lv_iconst (v := 0) hx hb dX10_isSmall_34 (by decide) ?_
        refine endI (r := bI (decide (k < L) && smallB (y 7 k))) (by (first | have c5x := Int32.not_lt.mp c5 | have c5x := Int32.not_le.mp c5 | have c5x := Int32.not_lt.mpr c5 | have c5x := Int32.not_le.mpr c5 | have c5x := c5); (first | have c16x := Int32.not_lt.mp c16 | have c16x := Int32.not_le.mp c16 | have c16x := Int32.not_lt.mpr c16 | have c16x := Int32.not_le.mpr c16 | have c16x := c16); (first | have c27x := Int32.not_lt.mp c27 | have c27x := Int32.not_le.mp c27 | have c27x := Int32.not_lt.mpr c27 | have c27x := Int32.not_le.mpr c27 | have c27x := c27); simp [bI, smallB, d5, c5, c16, c27, c5x, c16x, c27x]) ?_
        exact hret ls _ dX10_isSmall_35
      ·
        refine lv_iconst (v := 1) hx hb dX10_isSmall_30 (by decide) ?_
        refine lv_goto (tgt := 35) hx hb dX10_isSmall_31 (by decide) ?_
        refine endI (r := bI (decide (k < L) && smallB (y 7 k))) (by (first | have c5x := Int32.not_lt.mp c5 | have c5x := Int32.not_le.mp c5 | have c5x := Int32.not_lt.mpr c5 | have c5x := Int32.not_le.mpr c5 | have c5x := c5); (first | have c16x := Int32.not_lt.mp c16 | have c16x := Int32.not_le.mp c16 | have c16x := Int32.not_lt.mpr c16 | have c16x := Int32.not_le.mpr c16 | have c16x := c16); (first | have c27x := Int32.not_lt.mp c27 | have c27x := Int32.not_le.mp c27 | have c27x := Int32.not_lt.mpr c27 | have c27x := Int32.not_le.mpr c27 | have c27x := c27); simp [bI, smallB, d5, c5, c16, c27, c5x, c16x, c27x]) ?_
        exact hret ls _ dX10_isSmall_35

set_option maxHeartbeats 4000000 in
set_option maxRecDepth 100000 in
theorem c_X10_isDigit (l : Launch) (D : va_G) (T : Nat → ClassId) (b : Nat → Nat) (y : Nat → Nat → Int32) (g : PSt) (k : Nat) (L : Nat) (hL : y 0 1 = nI L) (hL2 : L ≤ 600) (hk : k ≤ 600) : Met l yX10_isDigit wsX10_isDigit ({ frames := 0, cells := 0, slots := 0, locals := 0 } : Room) (va_Pc [.ref (b 0), .int (nI k)] (PR D T (PARW T b y g))) (QcRead (bI (decide (k < L) && digB (y 7 k)))) 0 0 (fun _ => False) := by
  refine metR (cc := cX10_isDigit) (maxL := 2) (ty := .boolean) (by decide) rfl (by exact bI_nb _) (Nat.le_of_ble_eq_true rfl) ?_
  intro p e s m args below meth c Q ls hx hb hml hown hts hP hK hl hret
  have hown : s.vm.findClass RX10 = some m.cls := hown
  have hl : lv_has ls 2 [(0, .ref (b 0)), (1, .int (nI k))] := hl
  have i10 : ∀ w ∈ wsX100, w ∈ wsX10_isDigit := by decide +kernel
  have w1 := hts (Cond.fieldLink RX10 166 "MoonComplaintWindowModel" "length" "I") (List.mem_of_getElem? (i := 1) rfl)
  have w2 := hts (Cond.fieldLink RX10 29 "MoonComplaintWindowModel" "buffer" "[I") (List.mem_of_getElem? (i := 2) rfl)
  refine lv_iload_n hx hb dX10_isDigit_0 rfl (lv_at hl 1 rfl) ?_
  refine lv_aload_n hx hb dX10_isDigit_1 rfl (lv_at hl 0 rfl) ?_
  refine va_get (D := D) (ci := 10) (v := .int (y 0 1)) (C := RX10) (T := TX10) (N := 19) hx hb hts i10 hown hK hP 0 rfl rfl 8 (by decide) w1 (fun _ h9 => h9) rfl dX10_isDigit_2 ?_
  refine endI (r := nI L) (hL) ?_
  refine lv_icmp_ge (tgt := 34) hx hb dX10_isDigit_5 (by decide) (fun c5 => ?_) (fun c5 => ?_)
  ·
    have c5 : L ≤ k := (nI_leI (a := L) (b := k) (by omega) (by omega)).mp c5
    have d5 : ¬ k < L := by omega
    refine lv_iconst (v := 0) hx hb dX10_isDigit_34 (by decide) ?_
    refine endI (r := bI (decide (k < L) && digB (y 7 k))) (by (first | have c5x := Int32.not_lt.mp c5 | have c5x := Int32.not_le.mp c5 | have c5x := Int32.not_lt.mpr c5 | have c5x := Int32.not_le.mpr c5 | have c5x := c5); simp [bI, digB, d5, c5, c5x]) ?_
    exact hret ls _ dX10_isDigit_35
  ·
    have c5 : ¬ L ≤ k := fun h9 => c5 ((nI_leI (a := L) (b := k) (by omega) (by omega)).mpr h9)
    have d5 : k < L := by omega
    refine lv_aload_n hx hb dX10_isDigit_8 rfl (lv_at hl 0 rfl) ?_
    refine va_get (D := D) (ci := 10) (v := .ref (b 7)) (C := RX10) (T := TX10) (N := 19) hx hb hts i10 hown hK hP 0 rfl rfl 7 (by decide) w2 (fun _ h9 => h9) rfl dX10_isDigit_9 ?_
    refine lv_iload_n hx hb dX10_isDigit_12 rfl (lv_at hl 1 rfl) ?_
    refine aldI hx hb hK hP 7 0 rfl rfl (k) rfl (by omega) (by decide) dX10_isDigit_13 ?_
    refine endI (r := y 7 k) rfl ?_
    refine lv_bipush (v := 48) hx hb dX10_isDigit_14 (by decide) ?_
    refine lv_icmp_lt (tgt := 34) hx hb dX10_isDigit_16 (by decide) (fun c16 => ?_) (fun c16 => ?_)
    ·
      refine lv_iconst (v := 0) hx hb dX10_isDigit_34 (by decide) ?_
      refine endI (r := bI (decide (k < L) && digB (y 7 k))) (by (first | have c5x := Int32.not_lt.mp c5 | have c5x := Int32.not_le.mp c5 | have c5x := Int32.not_lt.mpr c5 | have c5x := Int32.not_le.mpr c5 | have c5x := c5); (first | have c16x := Int32.not_lt.mp c16 | have c16x := Int32.not_le.mp c16 | have c16x := Int32.not_lt.mpr c16 | have c16x := Int32.not_le.mpr c16 | have c16x := c16); simp [bI, digB, d5, c5, c16, c5x, c16x]) ?_
      exact hret ls _ dX10_isDigit_35
    ·
      refine lv_aload_n hx hb dX10_isDigit_19 rfl (lv_at hl 0 rfl) ?_
      refine va_get (D := D) (ci := 10) (v := .ref (b 7)) (C := RX10) (T := TX10) (N := 19) hx hb hts i10 hown hK hP 0 rfl rfl 7 (by decide) w2 (fun _ h9 => h9) rfl dX10_isDigit_20 ?_
      refine lv_iload_n hx hb dX10_isDigit_23 rfl (lv_at hl 1 rfl) ?_
      refine aldI hx hb hK hP 7 0 rfl rfl (k) rfl (by omega) (by decide) dX10_isDigit_24 ?_
      refine endI (r := y 7 k) rfl ?_
      refine lv_bipush (v := 57) hx hb dX10_isDigit_25 (by decide) ?_
      refine lv_icmp_gt (tgt := 34) hx hb dX10_isDigit_27 (by decide) (fun c27 => ?_) (fun c27 => ?_)
      ·
        refine lv_iconst (v := 0) hx hb dX10_isDigit_34 (by decide) ?_
        refine endI (r := bI (decide (k < L) && digB (y 7 k))) (by (first | have c5x := Int32.not_lt.mp c5 | have c5x := Int32.not_le.mp c5 | have c5x := Int32.not_lt.mpr c5 | have c5x := Int32.not_le.mpr c5 | have c5x := c5); (first | have c16x := Int32.not_lt.mp c16 | have c16x := Int32.not_le.mp c16 | have c16x := Int32.not_lt.mpr c16 | have c16x := Int32.not_le.mpr c16 | have c16x := c16); (first | have c27x := Int32.not_lt.mp c27 | have c27x := Int32.not_le.mp c27 | have c27x := Int32.not_lt.mpr c27 | have c27x := Int32.not_le.mpr c27 | have c27x := c27); simp [bI, digB, d5, c5, c16, c27, c5x, c16x, c27x]) ?_
        exact hret ls _ dX10_isDigit_35
      ·
        refine lv_iconst (v := 1) hx hb dX10_isDigit_30 (by decide) ?_
        refine lv_goto (tgt := 35) hx hb dX10_isDigit_31 (by decide) ?_
        refine endI (r := bI (decide (k < L) && digB (y 7 k))) (by (first | have c5x := Int32.not_lt.mp c5 | have c5x := Int32.not_le.mp c5 | have c5x := Int32.not_lt.mpr c5 | have c5x := Int32.not_le.mpr c5 | have c5x := c5); (first | have c16x := Int32.not_lt.mp c16 | have c16x := Int32.not_le.mp c16 | have c16x := Int32.not_lt.mpr c16 | have c16x := Int32.not_le.mpr c16 | have c16x := c16); (first | have c27x := Int32.not_lt.mp c27 | have c27x := Int32.not_le.mp c27 | have c27x := Int32.not_lt.mpr c27 | have c27x := Int32.not_le.mpr c27 | have c27x := c27); simp [bI, digB, d5, c5, c16, c27, c5x, c16x, c27x]) ?_
        exact hret ls _ dX10_isDigit_35

set_option maxHeartbeats 4000000 in
set_option maxRecDepth 100000 in
theorem c_X10_nextWord (l : Launch) (D : va_G) (T : Nat → ClassId) (b : Nat → Nat) (y : Nat → Nat → Int32) (g : PSt) (bg : Nat) (L : Nat) (hL : y 0 1 = nI L) (hL2 : L ≤ 600) (hat : g.1 ≤ L) (hbg : g.2.1 = nI bg) (hbg2 : bg ≤ g.1) (sz : Nat) : Met l yX10_nextWord wsX10_nextWord ({ frames := 1, cells := 0, slots := 0, locals := 21 } : Room) (va_Pc [.ref (b 0)] (PS D T (PARW T b y g) sz)) (va_Qv (fun (_ : Unit) => True) (fun _ t => QS D T (va_A (PARW T b y g) sz) (PARW T b y (((wordF (y 7) bg (L - g.1) g.1 g.2.2.2.2.1).1, g.2.1, 1, g.2.2.2.1, (wordF (y 7) bg (L - g.1) g.1 g.2.2.2.2.1).2, g.2.2.2.2.2.1, g.2.2.2.2.2.2))) t) (va_A (PARW T b y g) sz)) 0 0 (va_A (PARW T b y g) sz) := by
  refine metSv (cc := cX10_nextWord) (maxL := 1) (by decide) rfl (Nat.le_of_ble_eq_true rfl) ?_
  intro p e s m args below meth c Q ls A hx hb hml hown hts hP hK hD hA hS hl hret
  have hown : s.vm.findClass RX10 = some m.cls := hown
  have hl : lv_has ls 1 [(0, .ref (b 0))] := hl
  have i10 : ∀ w ∈ wsX100, w ∈ wsX10_nextWord := by decide +kernel
  have w1 := hts (Cond.fieldLink RX10 172 "MoonComplaintWindowModel" "at" "I") (List.mem_of_getElem? (i := 1) rfl)
  have w2 := hts (Cond.fieldLink RX10 175 "MoonComplaintWindowModel" "begin" "I") (List.mem_of_getElem? (i := 2) rfl)
  have w3 := hts (Cond.constantLong RX10 200 (27)) (List.mem_of_getElem? (i := 3) rfl)
  have w4 := hts (Cond.fieldLink RX10 181 "MoonComplaintWindowModel" "word" "J") (List.mem_of_getElem? (i := 4) rfl)
  have w5 := hts (Cond.fieldLink RX10 29 "MoonComplaintWindowModel" "buffer" "[I") (List.mem_of_getElem? (i := 5) rfl)
  have w6 := hts (Cond.constantLong RX10 202 (96)) (List.mem_of_getElem? (i := 6) rfl)
  have w7 := hts (Cond.fieldLink RX10 185 "MoonComplaintWindowModel" "kind" "I") (List.mem_of_getElem? (i := 7) rfl)
  have L0 : ∀ (n9 : Nat) (k : Nat) (w : Int64), (L - k) < n9 → (k ≤ L) → (bg ≤ k) → (wordF (y 7) bg (L - k) k w = wordF (y 7) bg (L - g.1) g.1 g.2.2.2.2.1) → ∀ (H : Heap) (locs : List Loc) (ls : Array Slot), va_P D vwCl (PARW T b y ((k, g.2.1, g.2.2.1, g.2.2.2.1, w, g.2.2.2.2.2.1, g.2.2.2.2.2.2))) H → va_D A (PARW T b y ((k, g.2.1, g.2.2.1, g.2.2.2.1, w, g.2.2.2.2.2.1, g.2.2.2.2.2.2))) → va_S A s.heap H locs → lv_has ls 1 [(0, .ref (b 0))] → W p l e ({ frames := 1, cells := 0, slots := 0, locals := 21 } : Room) s m args below meth c H locs 0 0 Q (F0 m 0 ls []) := by
    intro n9
    induction n9 with
    | zero => intro k w hm9; exact absurd hm9 (Nat.not_lt_zero _)
    | succ n9 ih =>
      intro k w hm9 hk9 hk8 hR H locs ls hP hD hS hl
      refine lv_aload_n hx hb dX10_nextWord_0 rfl (lv_at hl 0 rfl) ?_
      refine lv_aload_n hx hb dX10_nextWord_1 rfl (lv_at hl 0 rfl) ?_
      refine va_get (D := D) (ci := 10) (v := .int (nI k)) (C := RX10) (T := TX10) (N := 19) hx hb hts i10 hown hK hP 0 rfl rfl 11 (by decide) w1 (fun _ h9 => h9) rfl dX10_nextWord_2 ?_
      refine rdV (As := [.int (nI k)]) (rest := []) ⟨hx, hb, hml, hown, hts⟩ (c_X10_isSmall l D T b y ((k, g.2.1, g.2.2.1, g.2.2.2.1, w, g.2.2.2.2.2.1, g.2.2.2.2.2.2)) k L hL hL2 (by omega)) (cwV 1 hts gX10_nextWord_X10_isSmall rfl rfl rfl (by decide +kernel) ⟨Nat.le_of_ble_eq_true rfl, Nat.le_of_ble_eq_true rfl⟩) hK hP 0 rfl rfl rfl hl.1 rfl (Nat.le_of_ble_eq_true rfl) ⟨Nat.zero_le _, Nat.zero_le _⟩ dX10_nextWord_5 ?_
      refine lv_if_eq (tgt := 65) hx hb dX10_nextWord_8 (by decide) (fun c8 => ?_) (fun c8 => ?_)
      ·
        have c8 := bI_0.mp c8
        refine lv_aload_n hx hb dX10_nextWord_65 rfl (lv_at hl 0 rfl) ?_
        refine lv_iconst (v := 1) hx hb dX10_nextWord_66 (by decide) ?_
        refine va_put (D := D) (ci := 10) (v := .int (1)) (ty := .int) (C := RX10) (T := TX10) (N := 19) hx hb hts i10 tyX10 tyX10_ok nmX10 hown hK hP hD hS 0 rfl rfl 13 (by decide) w7 (fun _ h9 => h9) rfl (by decide +kernel) rfl rfl (Nat.le_of_ble_eq_true rfl) dX10_nextWord_67 (fun H locs hP hD hS => ?_)
        have hP : va_P D vwCl (PARW T b y ((k, g.2.1, 1, g.2.2.2.1, w, g.2.2.2.2.2.1, g.2.2.2.2.2.2))) H := hP
        have hD : va_D A (PARW T b y ((k, g.2.1, 1, g.2.2.2.1, w, g.2.2.2.2.2.1, g.2.2.2.2.2.2))) := hD
        have hE : (PARW T b y ((k, g.2.1, 1, g.2.2.2.1, w, g.2.2.2.2.2.1, g.2.2.2.2.2.2)) : va_W) = (PARW T b y (((wordF (y 7) bg (L - g.1) g.1 g.2.2.2.2.1).1, g.2.1, 1, g.2.2.2.1, (wordF (y 7) bg (L - g.1) g.1 g.2.2.2.2.1).2, g.2.2.2.2.2.1, g.2.2.2.2.2.2))) := by rw [wordF_stop c8] at hR; rw [← hR]
        exact hret _ _ _ _ dX10_nextWord_70 (by rw [← hE]; exact hP) (by rw [← hE]; exact hD) hS
      ·
        have c8 := bI_n0.mp c8
        have ck : k < L ∧ smallB (y 7 k) = true := by simpa using c8
        refine lv_aload_n hx hb dX10_nextWord_11 rfl (lv_at hl 0 rfl) ?_
        refine va_get (D := D) (ci := 10) (v := .int (nI k)) (C := RX10) (T := TX10) (N := 19) hx hb hts i10 hown hK hP 0 rfl rfl 11 (by decide) w1 (fun _ h9 => h9) rfl dX10_nextWord_12 ?_
        refine lv_aload_n hx hb dX10_nextWord_15 rfl (lv_at hl 0 rfl) ?_
        refine va_get (D := D) (ci := 10) (v := .int (g.2.1)) (C := RX10) (T := TX10) (N := 19) hx hb hts i10 hown hK hP 0 rfl rfl 12 (by decide) w2 (fun _ h9 => h9) rfl dX10_nextWord_16 ?_
        refine endI (r := nI bg) (hbg) ?_
        refine lv_isub hx hb dX10_nextWord_19 ?_
        refine endI (r := nI (k - bg)) (pk_sub (by omega)) ?_
        refine lv_bipush (v := 10) hx hb dX10_nextWord_20 (by decide) ?_
        refine lv_icmp_ge (tgt := 52) hx hb dX10_nextWord_22 (by decide) (fun c22 => ?_) (fun c22 => ?_)
        ·
          have c22 : 10 ≤ (k - bg) := (nI_leI (a := 10) (b := (k - bg)) (by omega) (by omega)).mp c22
          refine lv_aload_n hx hb dX10_nextWord_52 rfl (lv_at hl 0 rfl) ?_
          refine lv_dup hx hb dX10_nextWord_53 rfl ?_
          refine va_get (D := D) (ci := 10) (v := .int (nI k)) (C := RX10) (T := TX10) (N := 19) hx hb hts i10 hown hK hP 0 rfl rfl 11 (by decide) w1 (fun _ h9 => h9) rfl dX10_nextWord_54 ?_
          refine lv_iconst (v := 1) hx hb dX10_nextWord_57 (by decide) ?_
          refine lv_iadd hx hb dX10_nextWord_58 ?_
          refine endI (r := nI (k + 1)) (nI_add _ _) ?_
          refine va_put (D := D) (ci := 10) (v := .int (nI (k + 1))) (ty := .int) (C := RX10) (T := TX10) (N := 19) hx hb hts i10 tyX10 tyX10_ok nmX10 hown hK hP hD hS 0 rfl rfl 11 (by decide) w1 (fun _ h9 => h9) rfl (by decide +kernel) rfl rfl (Nat.le_of_ble_eq_true rfl) dX10_nextWord_59 (fun H locs hP hD hS => ?_)
          have hP : va_P D vwCl (PARW T b y ((k + 1, g.2.1, g.2.2.1, g.2.2.2.1, w, g.2.2.2.2.2.1, g.2.2.2.2.2.2))) H := hP
          have hD : va_D A (PARW T b y ((k + 1, g.2.1, g.2.2.1, g.2.2.2.1, w, g.2.2.2.2.2.1, g.2.2.2.2.2.2))) := hD
          refine lv_goto (tgt := 0) hx hb dX10_nextWord_62 (by decide) ?_
          exact ih (k + 1) w (by omega) (by omega) (by omega) (by rw [wordF_step ck.1 ck.2] at hR; first | (rw [if_pos (show k - bg < 10 from by omega)] at hR; exact hR) | (rw [if_neg (show ¬ k - bg < 10 from by omega)] at hR; exact hR)) _ _ _ hP hD hS (lv_sub hl [0] rfl)
        ·
          have c22 : ¬ 10 ≤ (k - bg) := fun h9 => c22 ((nI_leI (a := 10) (b := (k - bg)) (by omega) (by omega)).mpr h9)
          refine lv_aload_n hx hb dX10_nextWord_25 rfl (lv_at hl 0 rfl) ?_
          refine lv_ldc2 (v := 27) hx hb hown w3 dX10_nextWord_26 ?_
          refine lv_aload_n hx hb dX10_nextWord_29 rfl (lv_at hl 0 rfl) ?_
          refine va_get (D := D) (ci := 10) (v := .long (w)) (C := RX10) (T := TX10) (N := 19) hx hb hts i10 hown hK hP 0 rfl rfl 15 (by decide) w4 (fun _ h9 => h9) rfl dX10_nextWord_30 ?_
          refine lv_lmul hx hb dX10_nextWord_33 ?_
          refine lv_aload_n hx hb dX10_nextWord_34 rfl (lv_at hl 0 rfl) ?_
          refine va_get (D := D) (ci := 10) (v := .ref (b 7)) (C := RX10) (T := TX10) (N := 19) hx hb hts i10 hown hK hP 0 rfl rfl 7 (by decide) w5 (fun _ h9 => h9) rfl dX10_nextWord_35 ?_
          refine lv_aload_n hx hb dX10_nextWord_38 rfl (lv_at hl 0 rfl) ?_
          refine va_get (D := D) (ci := 10) (v := .int (nI k)) (C := RX10) (T := TX10) (N := 19) hx hb hts i10 hown hK hP 0 rfl rfl 11 (by decide) w1 (fun _ h9 => h9) rfl dX10_nextWord_39 ?_
          refine aldI hx hb hK hP 7 0 rfl rfl (k) rfl (by omega) (by decide) dX10_nextWord_42 ?_
          refine endI (r := y 7 k) rfl ?_
          refine lv_i2l (v := (y 7 k).toInt64) hx hb dX10_nextWord_43 rfl ?_
          refine lv_ladd hx hb dX10_nextWord_44 ?_
          refine lv_ldc2 (v := 96) hx hb hown w6 dX10_nextWord_45 ?_
          refine lv_lsub hx hb dX10_nextWord_48 ?_
          refine va_put (D := D) (ci := 10) (v := .long (((27 * w) + ((y 7 k).toInt64)) - 96)) (ty := .long) (C := RX10) (T := TX10) (N := 19) hx hb hts i10 tyX10 tyX10_ok nmX10 hown hK hP hD hS 0 rfl rfl 15 (by decide) w4 (fun _ h9 => h9) rfl (by decide +kernel) rfl rfl (Nat.le_of_ble_eq_true rfl) dX10_nextWord_49 (fun H locs hP hD hS => ?_)
          have hP : va_P D vwCl (PARW T b y ((k, g.2.1, g.2.2.1, g.2.2.2.1, ((27 * w) + ((y 7 k).toInt64)) - 96, g.2.2.2.2.2.1, g.2.2.2.2.2.2))) H := hP
          have hD : va_D A (PARW T b y ((k, g.2.1, g.2.2.1, g.2.2.2.1, ((27 * w) + ((y 7 k).toInt64)) - 96, g.2.2.2.2.2.1, g.2.2.2.2.2.2))) := hD
          refine lv_aload_n hx hb dX10_nextWord_52 rfl (lv_at hl 0 rfl) ?_
          refine lv_dup hx hb dX10_nextWord_53 rfl ?_
          refine va_get (D := D) (ci := 10) (v := .int (nI k)) (C := RX10) (T := TX10) (N := 19) hx hb hts i10 hown hK hP 0 rfl rfl 11 (by decide) w1 (fun _ h9 => h9) rfl dX10_nextWord_54 ?_
          refine lv_iconst (v := 1) hx hb dX10_nextWord_57 (by decide) ?_
          refine lv_iadd hx hb dX10_nextWord_58 ?_
          refine endI (r := nI (k + 1)) (nI_add _ _) ?_
          refine va_put (D := D) (ci := 10) (v := .int (nI (k + 1))) (ty := .int) (C := RX10) (T := TX10) (N := 19) hx hb hts i10 tyX10 tyX10_ok nmX10 hown hK hP hD hS 0 rfl rfl 11 (by decide) w1 (fun _ h9 => h9) rfl (by decide +kernel) rfl rfl (Nat.le_of_ble_eq_true rfl) dX10_nextWord_59 (fun H locs hP hD hS => ?_)
          have hP : va_P D vwCl (PARW T b y ((k + 1, g.2.1, g.2.2.1, g.2.2.2.1, ((27 * w) + ((y 7 k).toInt64)) - 96, g.2.2.2.2.2.1, g.2.2.2.2.2.2))) H := hP
          have hD : va_D A (PARW T b y ((k + 1, g.2.1, g.2.2.1, g.2.2.2.1, ((27 * w) + ((y 7 k).toInt64)) - 96, g.2.2.2.2.2.1, g.2.2.2.2.2.2))) := hD
          refine lv_goto (tgt := 0) hx hb dX10_nextWord_62 (by decide) ?_
          exact ih (k + 1) (((27 * w) + ((y 7 k).toInt64)) - 96) (by omega) (by omega) (by omega) (by rw [wordF_step ck.1 ck.2] at hR; first | (rw [if_pos (show k - bg < 10 from by omega)] at hR; exact hR) | (rw [if_neg (show ¬ k - bg < 10 from by omega)] at hR; exact hR)) _ _ _ hP hD hS (lv_sub hl [0] rfl)
  exact L0 _ g.1 g.2.2.2.2.1 (Nat.lt_succ_self _) (by omega) (by omega) (by rfl) _ _ _ hP hD hS (lv_sub hl [0] rfl)

set_option maxHeartbeats 4000000 in
set_option maxRecDepth 100000 in
theorem c_X10_nextNumber (l : Launch) (D : va_G) (T : Nat → ClassId) (b : Nat → Nat) (y : Nat → Nat → Int32) (g : PSt) (bg : Nat) (L : Nat) (hL : y 0 1 = nI L) (hL2 : L ≤ 600) (hat : g.1 ≤ L) (hbg : g.2.1 = nI bg) (hbg2 : bg ≤ g.1) (sz : Nat) : Met l yX10_nextNumber wsX10_nextNumber ({ frames := 1, cells := 0, slots := 0, locals := 21 } : Room) (va_Pc [.ref (b 0)] (PS D T (PARW T b y g) sz)) (va_Qv (fun (_ : Unit) => True) (fun _ t => QS D T (va_A (PARW T b y g) sz) (PARW T b y (((numF (y 7) bg (L - g.1) g.1 g.2.2.2.1).1, g.2.1, (if 2 < (numF (y 7) bg (L - g.1) g.1 g.2.2.2.1).1 - bg then 4 else 2), (numF (y 7) bg (L - g.1) g.1 g.2.2.2.1).2, g.2.2.2.2.1, g.2.2.2.2.2.1, g.2.2.2.2.2.2))) t) (va_A (PARW T b y g) sz)) 0 0 (va_A (PARW T b y g) sz) := by
  refine metSv (cc := cX10_nextNumber) (maxL := 1) (by decide) rfl (Nat.le_of_ble_eq_true rfl) ?_
  intro p e s m args below meth c Q ls A hx hb hml hown hts hP hK hD hA hS hl hret
  have hown : s.vm.findClass RX10 = some m.cls := hown
  have hl : lv_has ls 1 [(0, .ref (b 0))] := hl
  have i10 : ∀ w ∈ wsX100, w ∈ wsX10_nextNumber := by decide +kernel
  have w1 := hts (Cond.fieldLink RX10 172 "MoonComplaintWindowModel" "at" "I") (List.mem_of_getElem? (i := 1) rfl)
  have w2 := hts (Cond.fieldLink RX10 175 "MoonComplaintWindowModel" "begin" "I") (List.mem_of_getElem? (i := 2) rfl)
  have w3 := hts (Cond.fieldLink RX10 178 "MoonComplaintWindowModel" "value" "I") (List.mem_of_getElem? (i := 3) rfl)
  have w4 := hts (Cond.fieldLink RX10 29 "MoonComplaintWindowModel" "buffer" "[I") (List.mem_of_getElem? (i := 4) rfl)
  have w5 := hts (Cond.fieldLink RX10 185 "MoonComplaintWindowModel" "kind" "I") (List.mem_of_getElem? (i := 5) rfl)
  have L0 : ∀ (n9 : Nat) (k : Nat) (v : Int32), (L - k) < n9 → (k ≤ L) → (bg ≤ k) → (numF (y 7) bg (L - k) k v = numF (y 7) bg (L - g.1) g.1 g.2.2.2.1) → ∀ (H : Heap) (locs : List Loc) (ls : Array Slot), va_P D vwCl (PARW T b y ((k, g.2.1, g.2.2.1, v, g.2.2.2.2.1, g.2.2.2.2.2.1, g.2.2.2.2.2.2))) H → va_D A (PARW T b y ((k, g.2.1, g.2.2.1, v, g.2.2.2.2.1, g.2.2.2.2.2.1, g.2.2.2.2.2.2))) → va_S A s.heap H locs → lv_has ls 1 [(0, .ref (b 0))] → W p l e ({ frames := 1, cells := 0, slots := 0, locals := 21 } : Room) s m args below meth c H locs 0 0 Q (F0 m 0 ls []) := by
    intro n9
    induction n9 with
    | zero => intro k v hm9; exact absurd hm9 (Nat.not_lt_zero _)
    | succ n9 ih =>
      intro k v hm9 hk9 hk8 hR H locs ls hP hD hS hl
      refine lv_aload_n hx hb dX10_nextNumber_0 rfl (lv_at hl 0 rfl) ?_
      refine lv_aload_n hx hb dX10_nextNumber_1 rfl (lv_at hl 0 rfl) ?_
      refine va_get (D := D) (ci := 10) (v := .int (nI k)) (C := RX10) (T := TX10) (N := 19) hx hb hts i10 hown hK hP 0 rfl rfl 11 (by decide) w1 (fun _ h9 => h9) rfl dX10_nextNumber_2 ?_
      refine rdV (As := [.int (nI k)]) (rest := []) ⟨hx, hb, hml, hown, hts⟩ (c_X10_isDigit l D T b y ((k, g.2.1, g.2.2.1, v, g.2.2.2.2.1, g.2.2.2.2.2.1, g.2.2.2.2.2.2)) k L hL hL2 (by omega)) (cwV 1 hts gX10_nextNumber_X10_isDigit rfl rfl rfl (by decide +kernel) ⟨Nat.le_of_ble_eq_true rfl, Nat.le_of_ble_eq_true rfl⟩) hK hP 0 rfl rfl rfl hl.1 rfl (Nat.le_of_ble_eq_true rfl) ⟨Nat.zero_le _, Nat.zero_le _⟩ dX10_nextNumber_5 ?_
      refine lv_if_eq (tgt := 61) hx hb dX10_nextNumber_8 (by decide) (fun c8 => ?_) (fun c8 => ?_)
      ·
        have c8 := bI_0.mp c8
        refine lv_aload_n hx hb dX10_nextNumber_61 rfl (lv_at hl 0 rfl) ?_
        refine lv_iconst (v := 2) hx hb dX10_nextNumber_62 (by decide) ?_
        refine va_put (D := D) (ci := 10) (v := .int (2)) (ty := .int) (C := RX10) (T := TX10) (N := 19) hx hb hts i10 tyX10 tyX10_ok nmX10 hown hK hP hD hS 0 rfl rfl 13 (by decide) w5 (fun _ h9 => h9) rfl (by decide +kernel) rfl rfl (Nat.le_of_ble_eq_true rfl) dX10_nextNumber_63 (fun H locs hP hD hS => ?_)
        have hP : va_P D vwCl (PARW T b y ((k, g.2.1, 2, v, g.2.2.2.2.1, g.2.2.2.2.2.1, g.2.2.2.2.2.2))) H := hP
        have hD : va_D A (PARW T b y ((k, g.2.1, 2, v, g.2.2.2.2.1, g.2.2.2.2.2.1, g.2.2.2.2.2.2))) := hD
        refine lv_aload_n hx hb dX10_nextNumber_66 rfl (lv_at hl 0 rfl) ?_
        refine va_get (D := D) (ci := 10) (v := .int (nI k)) (C := RX10) (T := TX10) (N := 19) hx hb hts i10 hown hK hP 0 rfl rfl 11 (by decide) w1 (fun _ h9 => h9) rfl dX10_nextNumber_67 ?_
        refine lv_aload_n hx hb dX10_nextNumber_70 rfl (lv_at hl 0 rfl) ?_
        refine va_get (D := D) (ci := 10) (v := .int (g.2.1)) (C := RX10) (T := TX10) (N := 19) hx hb hts i10 hown hK hP 0 rfl rfl 12 (by decide) w2 (fun _ h9 => h9) rfl dX10_nextNumber_71 ?_
        refine endI (r := nI bg) (hbg) ?_
        refine lv_isub hx hb dX10_nextNumber_74 ?_
        refine endI (r := nI (k - bg)) (pk_sub (by omega)) ?_
        refine lv_iconst (v := 2) hx hb dX10_nextNumber_75 (by decide) ?_
        refine lv_icmp_le (tgt := 84) hx hb dX10_nextNumber_76 (by decide) (fun c76 => ?_) (fun c76 => ?_)
        ·
          have c76 : (k - bg) ≤ 2 := (nI_leI (a := (k - bg)) (b := 2) (by omega) (by omega)).mp c76
          have hE : (PARW T b y ((k, g.2.1, 2, v, g.2.2.2.2.1, g.2.2.2.2.2.1, g.2.2.2.2.2.2)) : va_W) = (PARW T b y (((numF (y 7) bg (L - g.1) g.1 g.2.2.2.1).1, g.2.1, (if 2 < (numF (y 7) bg (L - g.1) g.1 g.2.2.2.1).1 - bg then 4 else 2), (numF (y 7) bg (L - g.1) g.1 g.2.2.2.1).2, g.2.2.2.2.1, g.2.2.2.2.2.1, g.2.2.2.2.2.2))) := by rw [numF_stop c8] at hR; rw [← hR]; first | (rw [if_pos (show 2 < k - bg from by omega)]) | (rw [if_neg (show ¬ 2 < k - bg from by omega)])
          exact hret _ _ _ _ dX10_nextNumber_84 (by rw [← hE]; exact hP) (by rw [← hE]; exact hD) hS
        ·
          have c76 : ¬ (k - bg) ≤ 2 := fun h9 => c76 ((nI_leI (a := (k - bg)) (b := 2) (by omega) (by omega)).mpr h9)
          refine lv_aload_n hx hb dX10_nextNumber_79 rfl (lv_at hl 0 rfl) ?_
          refine lv_iconst (v := 4) hx hb dX10_nextNumber_80 (by decide) ?_
          refine va_put (D := D) (ci := 10) (v := .int (4)) (ty := .int) (C := RX10) (T := TX10) (N := 19) hx hb hts i10 tyX10 tyX10_ok nmX10 hown hK hP hD hS 0 rfl rfl 13 (by decide) w5 (fun _ h9 => h9) rfl (by decide +kernel) rfl rfl (Nat.le_of_ble_eq_true rfl) dX10_nextNumber_81 (fun H locs hP hD hS => ?_)
          have hP : va_P D vwCl (PARW T b y ((k, g.2.1, 4, v, g.2.2.2.2.1, g.2.2.2.2.2.1, g.2.2.2.2.2.2))) H := hP
          have hD : va_D A (PARW T b y ((k, g.2.1, 4, v, g.2.2.2.2.1, g.2.2.2.2.2.1, g.2.2.2.2.2.2))) := hD
          have hE : (PARW T b y ((k, g.2.1, 4, v, g.2.2.2.2.1, g.2.2.2.2.2.1, g.2.2.2.2.2.2)) : va_W) = (PARW T b y (((numF (y 7) bg (L - g.1) g.1 g.2.2.2.1).1, g.2.1, (if 2 < (numF (y 7) bg (L - g.1) g.1 g.2.2.2.1).1 - bg then 4 else 2), (numF (y 7) bg (L - g.1) g.1 g.2.2.2.1).2, g.2.2.2.2.1, g.2.2.2.2.2.1, g.2.2.2.2.2.2))) := by rw [numF_stop c8] at hR; rw [← hR]; first | (rw [if_pos (show 2 < k - bg from by omega)]) | (rw [if_neg (show ¬ 2 < k - bg from by omega)])
          exact hret _ _ _ _ dX10_nextNumber_84 (by rw [← hE]; exact hP) (by rw [← hE]; exact hD) hS
      ·
        have c8 := bI_n0.mp c8
        have ck : k < L ∧ digB (y 7 k) = true := by simpa using c8
        refine lv_aload_n hx hb dX10_nextNumber_11 rfl (lv_at hl 0 rfl) ?_
        refine va_get (D := D) (ci := 10) (v := .int (nI k)) (C := RX10) (T := TX10) (N := 19) hx hb hts i10 hown hK hP 0 rfl rfl 11 (by decide) w1 (fun _ h9 => h9) rfl dX10_nextNumber_12 ?_
        refine lv_aload_n hx hb dX10_nextNumber_15 rfl (lv_at hl 0 rfl) ?_
        refine va_get (D := D) (ci := 10) (v := .int (g.2.1)) (C := RX10) (T := TX10) (N := 19) hx hb hts i10 hown hK hP 0 rfl rfl 12 (by decide) w2 (fun _ h9 => h9) rfl dX10_nextNumber_16 ?_
        refine endI (r := nI bg) (hbg) ?_
        refine lv_isub hx hb dX10_nextNumber_19 ?_
        refine endI (r := nI (k - bg)) (pk_sub (by omega)) ?_
        refine lv_iconst (v := 2) hx hb dX10_nextNumber_20 (by decide) ?_
        refine lv_icmp_ge (tgt := 48) hx hb dX10_nextNumber_21 (by decide) (fun c21 => ?_) (fun c21 => ?_)
        ·
          have c21 : 2 ≤ (k - bg) := (nI_leI (a := 2) (b := (k - bg)) (by omega) (by omega)).mp c21
          refine lv_aload_n hx hb dX10_nextNumber_48 rfl (lv_at hl 0 rfl) ?_
          refine lv_dup hx hb dX10_nextNumber_49 rfl ?_
          refine va_get (D := D) (ci := 10) (v := .int (nI k)) (C := RX10) (T := TX10) (N := 19) hx hb hts i10 hown hK hP 0 rfl rfl 11 (by decide) w1 (fun _ h9 => h9) rfl dX10_nextNumber_50 ?_
          refine lv_iconst (v := 1) hx hb dX10_nextNumber_53 (by decide) ?_
          refine lv_iadd hx hb dX10_nextNumber_54 ?_
          refine endI (r := nI (k + 1)) (nI_add _ _) ?_
          refine va_put (D := D) (ci := 10) (v := .int (nI (k + 1))) (ty := .int) (C := RX10) (T := TX10) (N := 19) hx hb hts i10 tyX10 tyX10_ok nmX10 hown hK hP hD hS 0 rfl rfl 11 (by decide) w1 (fun _ h9 => h9) rfl (by decide +kernel) rfl rfl (Nat.le_of_ble_eq_true rfl) dX10_nextNumber_55 (fun H locs hP hD hS => ?_)
          have hP : va_P D vwCl (PARW T b y ((k + 1, g.2.1, g.2.2.1, v, g.2.2.2.2.1, g.2.2.2.2.2.1, g.2.2.2.2.2.2))) H := hP
          have hD : va_D A (PARW T b y ((k + 1, g.2.1, g.2.2.1, v, g.2.2.2.2.1, g.2.2.2.2.2.1, g.2.2.2.2.2.2))) := hD
          refine lv_goto (tgt := 0) hx hb dX10_nextNumber_58 (by decide) ?_
          exact ih (k + 1) v (by omega) (by omega) (by omega) (by rw [numF_step ck.1 ck.2] at hR; first | (rw [if_pos (show k - bg < 2 from by omega)] at hR; exact hR) | (rw [if_neg (show ¬ k - bg < 2 from by omega)] at hR; exact hR)) _ _ _ hP hD hS (lv_sub hl [0] rfl)
        ·
          have c21 : ¬ 2 ≤ (k - bg) := fun h9 => c21 ((nI_leI (a := 2) (b := (k - bg)) (by omega) (by omega)).mpr h9)
          refine lv_aload_n hx hb dX10_nextNumber_24 rfl (lv_at hl 0 rfl) ?_
          refine lv_bipush (v := 10) hx hb dX10_nextNumber_25 (by decide) ?_
          refine lv_aload_n hx hb dX10_nextNumber_27 rfl (lv_at hl 0 rfl) ?_
          refine va_get (D := D) (ci := 10) (v := .int (v)) (C := RX10) (T := TX10) (N := 19) hx hb hts i10 hown hK hP 0 rfl rfl 14 (by decide) w3 (fun _ h9 => h9) rfl dX10_nextNumber_28 ?_
          refine lv_imul hx hb dX10_nextNumber_31 ?_
          refine lv_aload_n hx hb dX10_nextNumber_32 rfl (lv_at hl 0 rfl) ?_
          refine va_get (D := D) (ci := 10) (v := .ref (b 7)) (C := RX10) (T := TX10) (N := 19) hx hb hts i10 hown hK hP 0 rfl rfl 7 (by decide) w4 (fun _ h9 => h9) rfl dX10_nextNumber_33 ?_
          refine lv_aload_n hx hb dX10_nextNumber_36 rfl (lv_at hl 0 rfl) ?_
          refine va_get (D := D) (ci := 10) (v := .int (nI k)) (C := RX10) (T := TX10) (N := 19) hx hb hts i10 hown hK hP 0 rfl rfl 11 (by decide) w1 (fun _ h9 => h9) rfl dX10_nextNumber_37 ?_
          refine aldI hx hb hK hP 7 0 rfl rfl (k) rfl (by omega) (by decide) dX10_nextNumber_40 ?_
          refine endI (r := y 7 k) rfl ?_
          refine lv_iadd hx hb dX10_nextNumber_41 ?_
          refine lv_bipush (v := 48) hx hb dX10_nextNumber_42 (by decide) ?_
          refine lv_isub hx hb dX10_nextNumber_44 ?_
          refine va_put (D := D) (ci := 10) (v := .int (((10 * v) + (y 7 k)) - 48)) (ty := .int) (C := RX10) (T := TX10) (N := 19) hx hb hts i10 tyX10 tyX10_ok nmX10 hown hK hP hD hS 0 rfl rfl 14 (by decide) w3 (fun _ h9 => h9) rfl (by decide +kernel) rfl rfl (Nat.le_of_ble_eq_true rfl) dX10_nextNumber_45 (fun H locs hP hD hS => ?_)
          have hP : va_P D vwCl (PARW T b y ((k, g.2.1, g.2.2.1, ((10 * v) + (y 7 k)) - 48, g.2.2.2.2.1, g.2.2.2.2.2.1, g.2.2.2.2.2.2))) H := hP
          have hD : va_D A (PARW T b y ((k, g.2.1, g.2.2.1, ((10 * v) + (y 7 k)) - 48, g.2.2.2.2.1, g.2.2.2.2.2.1, g.2.2.2.2.2.2))) := hD
          refine lv_aload_n hx hb dX10_nextNumber_48 rfl (lv_at hl 0 rfl) ?_
          refine lv_dup hx hb dX10_nextNumber_49 rfl ?_
          refine va_get (D := D) (ci := 10) (v := .int (nI k)) (C := RX10) (T := TX10) (N := 19) hx hb hts i10 hown hK hP 0 rfl rfl 11 (by decide) w1 (fun _ h9 => h9) rfl dX10_nextNumber_50 ?_
          refine lv_iconst (v := 1) hx hb dX10_nextNumber_53 (by decide) ?_
          refine lv_iadd hx hb dX10_nextNumber_54 ?_
          refine endI (r := nI (k + 1)) (nI_add _ _) ?_
          refine va_put (D := D) (ci := 10) (v := .int (nI (k + 1))) (ty := .int) (C := RX10) (T := TX10) (N := 19) hx hb hts i10 tyX10 tyX10_ok nmX10 hown hK hP hD hS 0 rfl rfl 11 (by decide) w1 (fun _ h9 => h9) rfl (by decide +kernel) rfl rfl (Nat.le_of_ble_eq_true rfl) dX10_nextNumber_55 (fun H locs hP hD hS => ?_)
          have hP : va_P D vwCl (PARW T b y ((k + 1, g.2.1, g.2.2.1, ((10 * v) + (y 7 k)) - 48, g.2.2.2.2.1, g.2.2.2.2.2.1, g.2.2.2.2.2.2))) H := hP
          have hD : va_D A (PARW T b y ((k + 1, g.2.1, g.2.2.1, ((10 * v) + (y 7 k)) - 48, g.2.2.2.2.1, g.2.2.2.2.2.1, g.2.2.2.2.2.2))) := hD
          refine lv_goto (tgt := 0) hx hb dX10_nextNumber_58 (by decide) ?_
          exact ih (k + 1) (((10 * v) + (y 7 k)) - 48) (by omega) (by omega) (by omega) (by rw [numF_step ck.1 ck.2] at hR; first | (rw [if_pos (show k - bg < 2 from by omega)] at hR; exact hR) | (rw [if_neg (show ¬ k - bg < 2 from by omega)] at hR; exact hR)) _ _ _ hP hD hS (lv_sub hl [0] rfl)
  exact L0 _ g.1 g.2.2.2.1 (Nat.lt_succ_self _) (by omega) (by omega) (by rfl) _ _ _ hP hD hS (lv_sub hl [0] rfl)

set_option maxHeartbeats 4000000 in
set_option maxRecDepth 100000 in
theorem c_X10_next (l : Launch) (D : va_G) (T : Nat → ClassId) (b : Nat → Nat) (y : Nat → Nat → Int32) (g : PSt) (L : Nat) (hL : y 0 1 = nI L) (hL2 : L ≤ 600) (hat : g.1 ≤ L) (sz : Nat) : Met l yX10_next wsX10_next ({ frames := 2, cells := 0, slots := 0, locals := 41 } : Room) (va_Pc [.ref (b 0)] (PS D T (PARW T b y g) sz)) (va_Qv (fun (_ : Unit) => True) (fun _ t => QS D T (va_A (PARW T b y g) sz) (PARW T b y (tokP (y 7) L g)) t) (va_A (PARW T b y g) sz)) 0 0 (va_A (PARW T b y g) sz) := by
  refine metSv (cc := cX10_next) (maxL := 1) (by decide) rfl (Nat.le_of_ble_eq_true rfl) ?_
  intro p e s m args below meth c Q ls A hx hb hml hown hts hP hK hD hA hS hl hret
  have hown : s.vm.findClass RX10 = some m.cls := hown
  have hl : lv_has ls 1 [(0, .ref (b 0))] := hl
  have i10 : ∀ w ∈ wsX100, w ∈ wsX10_next := by decide +kernel
  have w1 := hts (Cond.fieldLink RX10 172 "MoonComplaintWindowModel" "at" "I") (List.mem_of_getElem? (i := 1) rfl)
  have w2 := hts (Cond.fieldLink RX10 166 "MoonComplaintWindowModel" "length" "I") (List.mem_of_getElem? (i := 2) rfl)
  have w3 := hts (Cond.fieldLink RX10 29 "MoonComplaintWindowModel" "buffer" "[I") (List.mem_of_getElem? (i := 3) rfl)
  have w4 := hts (Cond.fieldLink RX10 175 "MoonComplaintWindowModel" "begin" "I") (List.mem_of_getElem? (i := 4) rfl)
  have w5 := hts (Cond.fieldLink RX10 178 "MoonComplaintWindowModel" "value" "I") (List.mem_of_getElem? (i := 5) rfl)
  have w6 := hts (Cond.fieldLink RX10 181 "MoonComplaintWindowModel" "word" "J") (List.mem_of_getElem? (i := 6) rfl)
  have w7 := hts (Cond.fieldLink RX10 185 "MoonComplaintWindowModel" "kind" "I") (List.mem_of_getElem? (i := 7) rfl)
  have L0 : ∀ (n9 : Nat) (k : Nat), (L - k) < n9 → (k ≤ L) → (runN blankB (y 7) (L - k) k = runN blankB (y 7) (L - g.1) g.1) → ∀ (H : Heap) (locs : List Loc) (ls : Array Slot), va_P D vwCl (PARW T b y ((k, g.2.1, g.2.2.1, g.2.2.2.1, g.2.2.2.2.1, g.2.2.2.2.2.1, g.2.2.2.2.2.2))) H → va_D A (PARW T b y ((k, g.2.1, g.2.2.1, g.2.2.2.1, g.2.2.2.2.1, g.2.2.2.2.2.1, g.2.2.2.2.2.2))) → va_S A s.heap H locs → lv_has ls 1 [(0, .ref (b 0))] → W p l e ({ frames := 2, cells := 0, slots := 0, locals := 41 } : Room) s m args below meth c H locs 0 0 Q (F0 m 0 ls []) := by
    intro n9
    induction n9 with
    | zero => intro k hm9; exact absurd hm9 (Nat.not_lt_zero _)
    | succ n9 ih =>
      intro k hm9 hk9 hR H locs ls hP hD hS hl
      refine lv_aload_n hx hb dX10_next_0 rfl (lv_at hl 0 rfl) ?_
      refine va_get (D := D) (ci := 10) (v := .int (nI k)) (C := RX10) (T := TX10) (N := 19) hx hb hts i10 hown hK hP 0 rfl rfl 11 (by decide) w1 (fun _ h9 => h9) rfl dX10_next_1 ?_
      refine lv_aload_n hx hb dX10_next_4 rfl (lv_at hl 0 rfl) ?_
      refine va_get (D := D) (ci := 10) (v := .int (y 0 1)) (C := RX10) (T := TX10) (N := 19) hx hb hts i10 hown hK hP 0 rfl rfl 8 (by decide) w2 (fun _ h9 => h9) rfl dX10_next_5 ?_
      refine endI (r := nI L) (hL) ?_
      refine lv_icmp_ge (tgt := 52) hx hb dX10_next_8 (by decide) (fun c8 => ?_) (fun c8 => ?_)
      ·
        have c8 : L ≤ k := (nI_leI (a := L) (b := k) (by omega) (by omega)).mp c8
        have hR9 : runN blankB (y 7) (L - g.1) g.1 = k := by rw [← hR]; exact runN_done (by omega)
        refine lv_aload_n hx hb dX10_next_52 rfl (lv_at hl 0 rfl) ?_
        refine lv_aload_n hx hb dX10_next_53 rfl (lv_at hl 0 rfl) ?_
        refine va_get (D := D) (ci := 10) (v := .int (nI k)) (C := RX10) (T := TX10) (N := 19) hx hb hts i10 hown hK hP 0 rfl rfl 11 (by decide) w1 (fun _ h9 => h9) rfl dX10_next_54 ?_
        refine va_put (D := D) (ci := 10) (v := .int (nI k)) (ty := .int) (C := RX10) (T := TX10) (N := 19) hx hb hts i10 tyX10 tyX10_ok nmX10 hown hK hP hD hS 0 rfl rfl 12 (by decide) w4 (fun _ h9 => h9) rfl (by decide +kernel) rfl rfl (Nat.le_of_ble_eq_true rfl) dX10_next_57 (fun H locs hP hD hS => ?_)
        have hP : va_P D vwCl (PARW T b y ((k, nI k, g.2.2.1, g.2.2.2.1, g.2.2.2.2.1, g.2.2.2.2.2.1, g.2.2.2.2.2.2))) H := hP
        have hD : va_D A (PARW T b y ((k, nI k, g.2.2.1, g.2.2.2.1, g.2.2.2.2.1, g.2.2.2.2.2.1, g.2.2.2.2.2.2))) := hD
        refine lv_aload_n hx hb dX10_next_60 rfl (lv_at hl 0 rfl) ?_
        refine lv_iconst (v := 0) hx hb dX10_next_61 (by decide) ?_
        refine va_put (D := D) (ci := 10) (v := .int (0)) (ty := .int) (C := RX10) (T := TX10) (N := 19) hx hb hts i10 tyX10 tyX10_ok nmX10 hown hK hP hD hS 0 rfl rfl 14 (by decide) w5 (fun _ h9 => h9) rfl (by decide +kernel) rfl rfl (Nat.le_of_ble_eq_true rfl) dX10_next_62 (fun H locs hP hD hS => ?_)
        have hP : va_P D vwCl (PARW T b y ((k, nI k, g.2.2.1, 0, g.2.2.2.2.1, g.2.2.2.2.2.1, g.2.2.2.2.2.2))) H := hP
        have hD : va_D A (PARW T b y ((k, nI k, g.2.2.1, 0, g.2.2.2.2.1, g.2.2.2.2.2.1, g.2.2.2.2.2.2))) := hD
        refine lv_aload_n hx hb dX10_next_65 rfl (lv_at hl 0 rfl) ?_
        refine lv_lconst (v := 0) hx hb dX10_next_66 rfl ?_
        refine va_put (D := D) (ci := 10) (v := .long (0)) (ty := .long) (C := RX10) (T := TX10) (N := 19) hx hb hts i10 tyX10 tyX10_ok nmX10 hown hK hP hD hS 0 rfl rfl 15 (by decide) w6 (fun _ h9 => h9) rfl (by decide +kernel) rfl rfl (Nat.le_of_ble_eq_true rfl) dX10_next_67 (fun H locs hP hD hS => ?_)
        have hP : va_P D vwCl (PARW T b y ((k, nI k, g.2.2.1, 0, 0, g.2.2.2.2.2.1, g.2.2.2.2.2.2))) H := hP
        have hD : va_D A (PARW T b y ((k, nI k, g.2.2.1, 0, 0, g.2.2.2.2.2.1, g.2.2.2.2.2.2))) := hD
        refine lv_aload_n hx hb dX10_next_70 rfl (lv_at hl 0 rfl) ?_
        refine va_get (D := D) (ci := 10) (v := .int (nI k)) (C := RX10) (T := TX10) (N := 19) hx hb hts i10 hown hK hP 0 rfl rfl 11 (by decide) w1 (fun _ h9 => h9) rfl dX10_next_71 ?_
        refine lv_aload_n hx hb dX10_next_74 rfl (lv_at hl 0 rfl) ?_
        refine va_get (D := D) (ci := 10) (v := .int (y 0 1)) (C := RX10) (T := TX10) (N := 19) hx hb hts i10 hown hK hP 0 rfl rfl 8 (by decide) w2 (fun _ h9 => h9) rfl dX10_next_75 ?_
        refine endI (r := nI L) (hL) ?_
        refine lv_icmp_ne (tgt := 89) hx hb dX10_next_78 (by decide) (fun c78 => ?_) (fun c78 => ?_)
        ·
          have c78 : ¬ k = L := fun h9 => c78 ((nI_eq (a := k) (b := L) (by omega) (by omega)).mpr h9)
          refine lv_aload_n hx hb dX10_next_89 rfl (lv_at hl 0 rfl) ?_
          refine lv_aload_n hx hb dX10_next_90 rfl (lv_at hl 0 rfl) ?_
          refine va_get (D := D) (ci := 10) (v := .int (nI k)) (C := RX10) (T := TX10) (N := 19) hx hb hts i10 hown hK hP 0 rfl rfl 11 (by decide) w1 (fun _ h9 => h9) rfl dX10_next_91 ?_
          refine rdV (As := [.int (nI k)]) (rest := []) ⟨hx, hb, hml, hown, hts⟩ (c_X10_isSmall l D T b y ((k, nI k, g.2.2.1, 0, 0, g.2.2.2.2.2.1, g.2.2.2.2.2.2)) k L hL hL2 (by omega)) (cwV 1 hts gX10_next_X10_isSmall rfl rfl rfl (by decide +kernel) ⟨Nat.le_of_ble_eq_true rfl, Nat.le_of_ble_eq_true rfl⟩) hK hP 0 rfl rfl rfl hl.1 rfl (Nat.le_of_ble_eq_true rfl) ⟨Nat.zero_le _, Nat.zero_le _⟩ dX10_next_94 ?_
          refine lv_if_eq (tgt := 107) hx hb dX10_next_97 (by decide) (fun c97 => ?_) (fun c97 => ?_)
          ·
            have c97 := bI_0.mp c97
            have c97 : smallB (y 7 k) = false := by simpa [show k < L by omega] using c97
            refine lv_aload_n hx hb dX10_next_107 rfl (lv_at hl 0 rfl) ?_
            refine lv_aload_n hx hb dX10_next_108 rfl (lv_at hl 0 rfl) ?_
            refine va_get (D := D) (ci := 10) (v := .int (nI k)) (C := RX10) (T := TX10) (N := 19) hx hb hts i10 hown hK hP 0 rfl rfl 11 (by decide) w1 (fun _ h9 => h9) rfl dX10_next_109 ?_
            refine rdV (As := [.int (nI k)]) (rest := []) ⟨hx, hb, hml, hown, hts⟩ (c_X10_isDigit l D T b y ((k, nI k, g.2.2.1, 0, 0, g.2.2.2.2.2.1, g.2.2.2.2.2.2)) k L hL hL2 (by omega)) (cwV 1 hts gX10_next_X10_isDigit rfl rfl rfl (by decide +kernel) ⟨Nat.le_of_ble_eq_true rfl, Nat.le_of_ble_eq_true rfl⟩) hK hP 0 rfl rfl rfl hl.1 rfl (Nat.le_of_ble_eq_true rfl) ⟨Nat.zero_le _, Nat.zero_le _⟩ dX10_next_112 ?_
            refine lv_if_eq (tgt := 125) hx hb dX10_next_115 (by decide) (fun c115 => ?_) (fun c115 => ?_)
            ·
              have c115 := bI_0.mp c115
              have c115 : digB (y 7 k) = false := by simpa [show k < L by omega] using c115
              have hT := tkR_other hR9 c78 c97 c115
              refine lv_aload_n hx hb dX10_next_125 rfl (lv_at hl 0 rfl) ?_
              refine lv_iconst (v := 4) hx hb dX10_next_126 (by decide) ?_
              refine va_put (D := D) (ci := 10) (v := .int (4)) (ty := .int) (C := RX10) (T := TX10) (N := 19) hx hb hts i10 tyX10 tyX10_ok nmX10 hown hK hP hD hS 0 rfl rfl 13 (by decide) w7 (fun _ h9 => h9) rfl (by decide +kernel) rfl rfl (Nat.le_of_ble_eq_true rfl) dX10_next_127 (fun H locs hP hD hS => ?_)
              have hP : va_P D vwCl (PARW T b y ((k, nI k, 4, 0, 0, g.2.2.2.2.2.1, g.2.2.2.2.2.2))) H := hP
              have hD : va_D A (PARW T b y ((k, nI k, 4, 0, 0, g.2.2.2.2.2.1, g.2.2.2.2.2.2))) := hD
              refine lv_aload_n hx hb dX10_next_130 rfl (lv_at hl 0 rfl) ?_
              refine va_get (D := D) (ci := 10) (v := .ref (b 7)) (C := RX10) (T := TX10) (N := 19) hx hb hts i10 hown hK hP 0 rfl rfl 7 (by decide) w3 (fun _ h9 => h9) rfl dX10_next_131 ?_
              refine lv_aload_n hx hb dX10_next_134 rfl (lv_at hl 0 rfl) ?_
              refine va_get (D := D) (ci := 10) (v := .int (nI k)) (C := RX10) (T := TX10) (N := 19) hx hb hts i10 hown hK hP 0 rfl rfl 11 (by decide) w1 (fun _ h9 => h9) rfl dX10_next_135 ?_
              refine aldI hx hb hK hP 7 0 rfl rfl (k) rfl (by omega) (by decide) dX10_next_138 ?_
              refine endI (r := y 7 k) rfl ?_
              refine lv_bipush (v := 59) hx hb dX10_next_139 (by decide) ?_
              refine lv_icmp_ne (tgt := 149) hx hb dX10_next_141 (by decide) (fun c141 => ?_) (fun c141 => ?_)
              ·
                refine lv_aload_n hx hb dX10_next_149 rfl (lv_at hl 0 rfl) ?_
                refine lv_dup hx hb dX10_next_150 rfl ?_
                refine va_get (D := D) (ci := 10) (v := .int (nI k)) (C := RX10) (T := TX10) (N := 19) hx hb hts i10 hown hK hP 0 rfl rfl 11 (by decide) w1 (fun _ h9 => h9) rfl dX10_next_151 ?_
                refine lv_iconst (v := 1) hx hb dX10_next_154 (by decide) ?_
                refine lv_iadd hx hb dX10_next_155 ?_
                refine endI (r := nI (k + 1)) (nI_add _ _) ?_
                refine va_put (D := D) (ci := 10) (v := .int (nI (k + 1))) (ty := .int) (C := RX10) (T := TX10) (N := 19) hx hb hts i10 tyX10 tyX10_ok nmX10 hown hK hP hD hS 0 rfl rfl 11 (by decide) w1 (fun _ h9 => h9) rfl (by decide +kernel) rfl rfl (Nat.le_of_ble_eq_true rfl) dX10_next_156 (fun H locs hP hD hS => ?_)
                have hP : va_P D vwCl (PARW T b y ((k + 1, nI k, 4, 0, 0, g.2.2.2.2.2.1, g.2.2.2.2.2.2))) H := hP
                have hD : va_D A (PARW T b y ((k + 1, nI k, 4, 0, 0, g.2.2.2.2.2.1, g.2.2.2.2.2.2))) := hD
                have hE : (PARW T b y ((k + 1, nI k, 4, 0, 0, g.2.2.2.2.2.1, g.2.2.2.2.2.2)) : va_W) = (PARW T b y (tokP (y 7) L g)) := by unfold tokP; rw [hT]; first | done | rfl | (rw [if_pos c141]; done) | (rw [if_neg c141]; done)
                exact hret _ _ _ _ dX10_next_159 (by rw [← hE]; exact hP) (by rw [← hE]; exact hD) hS
              ·
                refine lv_aload_n hx hb dX10_next_144 rfl (lv_at hl 0 rfl) ?_
                refine lv_iconst (v := 3) hx hb dX10_next_145 (by decide) ?_
                refine va_put (D := D) (ci := 10) (v := .int (3)) (ty := .int) (C := RX10) (T := TX10) (N := 19) hx hb hts i10 tyX10 tyX10_ok nmX10 hown hK hP hD hS 0 rfl rfl 13 (by decide) w7 (fun _ h9 => h9) rfl (by decide +kernel) rfl rfl (Nat.le_of_ble_eq_true rfl) dX10_next_146 (fun H locs hP hD hS => ?_)
                have hP : va_P D vwCl (PARW T b y ((k, nI k, 3, 0, 0, g.2.2.2.2.2.1, g.2.2.2.2.2.2))) H := hP
                have hD : va_D A (PARW T b y ((k, nI k, 3, 0, 0, g.2.2.2.2.2.1, g.2.2.2.2.2.2))) := hD
                refine lv_aload_n hx hb dX10_next_149 rfl (lv_at hl 0 rfl) ?_
                refine lv_dup hx hb dX10_next_150 rfl ?_
                refine va_get (D := D) (ci := 10) (v := .int (nI k)) (C := RX10) (T := TX10) (N := 19) hx hb hts i10 hown hK hP 0 rfl rfl 11 (by decide) w1 (fun _ h9 => h9) rfl dX10_next_151 ?_
                refine lv_iconst (v := 1) hx hb dX10_next_154 (by decide) ?_
                refine lv_iadd hx hb dX10_next_155 ?_
                refine endI (r := nI (k + 1)) (nI_add _ _) ?_
                refine va_put (D := D) (ci := 10) (v := .int (nI (k + 1))) (ty := .int) (C := RX10) (T := TX10) (N := 19) hx hb hts i10 tyX10 tyX10_ok nmX10 hown hK hP hD hS 0 rfl rfl 11 (by decide) w1 (fun _ h9 => h9) rfl (by decide +kernel) rfl rfl (Nat.le_of_ble_eq_true rfl) dX10_next_156 (fun H locs hP hD hS => ?_)
                have hP : va_P D vwCl (PARW T b y ((k + 1, nI k, 3, 0, 0, g.2.2.2.2.2.1, g.2.2.2.2.2.2))) H := hP
                have hD : va_D A (PARW T b y ((k + 1, nI k, 3, 0, 0, g.2.2.2.2.2.1, g.2.2.2.2.2.2))) := hD
                have hE : (PARW T b y ((k + 1, nI k, 3, 0, 0, g.2.2.2.2.2.1, g.2.2.2.2.2.2)) : va_W) = (PARW T b y (tokP (y 7) L g)) := by unfold tokP; rw [hT]; first | done | rfl | (rw [if_pos c141]; done) | (rw [if_neg c141]; done)
                exact hret _ _ _ _ dX10_next_159 (by rw [← hE]; exact hP) (by rw [← hE]; exact hD) hS
            ·
              have c115 := bI_n0.mp c115
              have c115 : digB (y 7 k) = true := by simpa [show k < L by omega] using c115
              have hT := tkR_num hR9 c78 c97 c115
              refine lv_aload_n hx hb dX10_next_118 rfl (lv_at hl 0 rfl) ?_
              refine wrVv (As := []) (rest := []) ⟨hx, hb, hml, hown, hts⟩ (c_X10_nextNumber l D T b y ((k, nI k, g.2.2.1, 0, 0, g.2.2.2.2.2.1, g.2.2.2.2.2.2)) k L hL hL2 hk9 rfl (Nat.le_refl _) _) (cwV 0 hts gX10_next_X10_nextNumber rfl rfl rfl (by decide +kernel) ⟨Nat.le_of_ble_eq_true rfl, Nat.le_of_ble_eq_true rfl⟩) (Foc.rfl _ _) hK hP hD hS hA 0 rfl rfl rfl hl.1 rfl (Nat.le_of_ble_eq_true rfl) ⟨Nat.zero_le _, Nat.zero_le _⟩ dX10_next_119 (fun H locs hP hD hS => ?_)
              have hP : va_P D vwCl (PARW T b y (((numF (y 7) k (L - ((k, nI k, g.2.2.1, 0, 0, g.2.2.2.2.2.1, g.2.2.2.2.2.2)).1) ((k, nI k, g.2.2.1, 0, 0, g.2.2.2.2.2.1, g.2.2.2.2.2.2)).1 ((k, nI k, g.2.2.1, 0, 0, g.2.2.2.2.2.1, g.2.2.2.2.2.2)).2.2.2.1).1, ((k, nI k, g.2.2.1, 0, 0, g.2.2.2.2.2.1, g.2.2.2.2.2.2)).2.1, (if 2 < (numF (y 7) k (L - ((k, nI k, g.2.2.1, 0, 0, g.2.2.2.2.2.1, g.2.2.2.2.2.2)).1) ((k, nI k, g.2.2.1, 0, 0, g.2.2.2.2.2.1, g.2.2.2.2.2.2)).1 ((k, nI k, g.2.2.1, 0, 0, g.2.2.2.2.2.1, g.2.2.2.2.2.2)).2.2.2.1).1 - k then 4 else 2), (numF (y 7) k (L - ((k, nI k, g.2.2.1, 0, 0, g.2.2.2.2.2.1, g.2.2.2.2.2.2)).1) ((k, nI k, g.2.2.1, 0, 0, g.2.2.2.2.2.1, g.2.2.2.2.2.2)).1 ((k, nI k, g.2.2.1, 0, 0, g.2.2.2.2.2.1, g.2.2.2.2.2.2)).2.2.2.1).2, ((k, nI k, g.2.2.1, 0, 0, g.2.2.2.2.2.1, g.2.2.2.2.2.2)).2.2.2.2.1, ((k, nI k, g.2.2.1, 0, 0, g.2.2.2.2.2.1, g.2.2.2.2.2.2)).2.2.2.2.2.1, ((k, nI k, g.2.2.1, 0, 0, g.2.2.2.2.2.1, g.2.2.2.2.2.2)).2.2.2.2.2.2))) H := hP
              have hD : va_D A (PARW T b y (((numF (y 7) k (L - ((k, nI k, g.2.2.1, 0, 0, g.2.2.2.2.2.1, g.2.2.2.2.2.2)).1) ((k, nI k, g.2.2.1, 0, 0, g.2.2.2.2.2.1, g.2.2.2.2.2.2)).1 ((k, nI k, g.2.2.1, 0, 0, g.2.2.2.2.2.1, g.2.2.2.2.2.2)).2.2.2.1).1, ((k, nI k, g.2.2.1, 0, 0, g.2.2.2.2.2.1, g.2.2.2.2.2.2)).2.1, (if 2 < (numF (y 7) k (L - ((k, nI k, g.2.2.1, 0, 0, g.2.2.2.2.2.1, g.2.2.2.2.2.2)).1) ((k, nI k, g.2.2.1, 0, 0, g.2.2.2.2.2.1, g.2.2.2.2.2.2)).1 ((k, nI k, g.2.2.1, 0, 0, g.2.2.2.2.2.1, g.2.2.2.2.2.2)).2.2.2.1).1 - k then 4 else 2), (numF (y 7) k (L - ((k, nI k, g.2.2.1, 0, 0, g.2.2.2.2.2.1, g.2.2.2.2.2.2)).1) ((k, nI k, g.2.2.1, 0, 0, g.2.2.2.2.2.1, g.2.2.2.2.2.2)).1 ((k, nI k, g.2.2.1, 0, 0, g.2.2.2.2.2.1, g.2.2.2.2.2.2)).2.2.2.1).2, ((k, nI k, g.2.2.1, 0, 0, g.2.2.2.2.2.1, g.2.2.2.2.2.2)).2.2.2.2.1, ((k, nI k, g.2.2.1, 0, 0, g.2.2.2.2.2.1, g.2.2.2.2.2.2)).2.2.2.2.2.1, ((k, nI k, g.2.2.1, 0, 0, g.2.2.2.2.2.1, g.2.2.2.2.2.2)).2.2.2.2.2.2))) := hD
              refine lv_goto (tgt := 159) hx hb dX10_next_122 (by decide) ?_
              have hE : (PARW T b y (((numF (y 7) k (L - ((k, nI k, g.2.2.1, 0, 0, g.2.2.2.2.2.1, g.2.2.2.2.2.2)).1) ((k, nI k, g.2.2.1, 0, 0, g.2.2.2.2.2.1, g.2.2.2.2.2.2)).1 ((k, nI k, g.2.2.1, 0, 0, g.2.2.2.2.2.1, g.2.2.2.2.2.2)).2.2.2.1).1, ((k, nI k, g.2.2.1, 0, 0, g.2.2.2.2.2.1, g.2.2.2.2.2.2)).2.1, (if 2 < (numF (y 7) k (L - ((k, nI k, g.2.2.1, 0, 0, g.2.2.2.2.2.1, g.2.2.2.2.2.2)).1) ((k, nI k, g.2.2.1, 0, 0, g.2.2.2.2.2.1, g.2.2.2.2.2.2)).1 ((k, nI k, g.2.2.1, 0, 0, g.2.2.2.2.2.1, g.2.2.2.2.2.2)).2.2.2.1).1 - k then 4 else 2), (numF (y 7) k (L - ((k, nI k, g.2.2.1, 0, 0, g.2.2.2.2.2.1, g.2.2.2.2.2.2)).1) ((k, nI k, g.2.2.1, 0, 0, g.2.2.2.2.2.1, g.2.2.2.2.2.2)).1 ((k, nI k, g.2.2.1, 0, 0, g.2.2.2.2.2.1, g.2.2.2.2.2.2)).2.2.2.1).2, ((k, nI k, g.2.2.1, 0, 0, g.2.2.2.2.2.1, g.2.2.2.2.2.2)).2.2.2.2.1, ((k, nI k, g.2.2.1, 0, 0, g.2.2.2.2.2.1, g.2.2.2.2.2.2)).2.2.2.2.2.1, ((k, nI k, g.2.2.1, 0, 0, g.2.2.2.2.2.1, g.2.2.2.2.2.2)).2.2.2.2.2.2)) : va_W) = (PARW T b y (tokP (y 7) L g)) := by unfold tokP; rw [hT]; first | done | rfl | (rw [if_pos c141]; done) | (rw [if_neg c141]; done)
              exact hret _ _ _ _ dX10_next_159 (by rw [← hE]; exact hP) (by rw [← hE]; exact hD) hS
          ·
            have c97 := bI_n0.mp c97
            have c97 : smallB (y 7 k) = true := by simpa [show k < L by omega] using c97
            have hT := tkR_word hR9 c78 c97
            refine lv_aload_n hx hb dX10_next_100 rfl (lv_at hl 0 rfl) ?_
            refine wrVv (As := []) (rest := []) ⟨hx, hb, hml, hown, hts⟩ (c_X10_nextWord l D T b y ((k, nI k, g.2.2.1, 0, 0, g.2.2.2.2.2.1, g.2.2.2.2.2.2)) k L hL hL2 hk9 rfl (Nat.le_refl _) _) (cwV 0 hts gX10_next_X10_nextWord rfl rfl rfl (by decide +kernel) ⟨Nat.le_of_ble_eq_true rfl, Nat.le_of_ble_eq_true rfl⟩) (Foc.rfl _ _) hK hP hD hS hA 0 rfl rfl rfl hl.1 rfl (Nat.le_of_ble_eq_true rfl) ⟨Nat.zero_le _, Nat.zero_le _⟩ dX10_next_101 (fun H locs hP hD hS => ?_)
            have hP : va_P D vwCl (PARW T b y (((wordF (y 7) k (L - ((k, nI k, g.2.2.1, 0, 0, g.2.2.2.2.2.1, g.2.2.2.2.2.2)).1) ((k, nI k, g.2.2.1, 0, 0, g.2.2.2.2.2.1, g.2.2.2.2.2.2)).1 ((k, nI k, g.2.2.1, 0, 0, g.2.2.2.2.2.1, g.2.2.2.2.2.2)).2.2.2.2.1).1, ((k, nI k, g.2.2.1, 0, 0, g.2.2.2.2.2.1, g.2.2.2.2.2.2)).2.1, 1, ((k, nI k, g.2.2.1, 0, 0, g.2.2.2.2.2.1, g.2.2.2.2.2.2)).2.2.2.1, (wordF (y 7) k (L - ((k, nI k, g.2.2.1, 0, 0, g.2.2.2.2.2.1, g.2.2.2.2.2.2)).1) ((k, nI k, g.2.2.1, 0, 0, g.2.2.2.2.2.1, g.2.2.2.2.2.2)).1 ((k, nI k, g.2.2.1, 0, 0, g.2.2.2.2.2.1, g.2.2.2.2.2.2)).2.2.2.2.1).2, ((k, nI k, g.2.2.1, 0, 0, g.2.2.2.2.2.1, g.2.2.2.2.2.2)).2.2.2.2.2.1, ((k, nI k, g.2.2.1, 0, 0, g.2.2.2.2.2.1, g.2.2.2.2.2.2)).2.2.2.2.2.2))) H := hP
            have hD : va_D A (PARW T b y (((wordF (y 7) k (L - ((k, nI k, g.2.2.1, 0, 0, g.2.2.2.2.2.1, g.2.2.2.2.2.2)).1) ((k, nI k, g.2.2.1, 0, 0, g.2.2.2.2.2.1, g.2.2.2.2.2.2)).1 ((k, nI k, g.2.2.1, 0, 0, g.2.2.2.2.2.1, g.2.2.2.2.2.2)).2.2.2.2.1).1, ((k, nI k, g.2.2.1, 0, 0, g.2.2.2.2.2.1, g.2.2.2.2.2.2)).2.1, 1, ((k, nI k, g.2.2.1, 0, 0, g.2.2.2.2.2.1, g.2.2.2.2.2.2)).2.2.2.1, (wordF (y 7) k (L - ((k, nI k, g.2.2.1, 0, 0, g.2.2.2.2.2.1, g.2.2.2.2.2.2)).1) ((k, nI k, g.2.2.1, 0, 0, g.2.2.2.2.2.1, g.2.2.2.2.2.2)).1 ((k, nI k, g.2.2.1, 0, 0, g.2.2.2.2.2.1, g.2.2.2.2.2.2)).2.2.2.2.1).2, ((k, nI k, g.2.2.1, 0, 0, g.2.2.2.2.2.1, g.2.2.2.2.2.2)).2.2.2.2.2.1, ((k, nI k, g.2.2.1, 0, 0, g.2.2.2.2.2.1, g.2.2.2.2.2.2)).2.2.2.2.2.2))) := hD
            refine lv_goto (tgt := 159) hx hb dX10_next_104 (by decide) ?_
            have hE : (PARW T b y (((wordF (y 7) k (L - ((k, nI k, g.2.2.1, 0, 0, g.2.2.2.2.2.1, g.2.2.2.2.2.2)).1) ((k, nI k, g.2.2.1, 0, 0, g.2.2.2.2.2.1, g.2.2.2.2.2.2)).1 ((k, nI k, g.2.2.1, 0, 0, g.2.2.2.2.2.1, g.2.2.2.2.2.2)).2.2.2.2.1).1, ((k, nI k, g.2.2.1, 0, 0, g.2.2.2.2.2.1, g.2.2.2.2.2.2)).2.1, 1, ((k, nI k, g.2.2.1, 0, 0, g.2.2.2.2.2.1, g.2.2.2.2.2.2)).2.2.2.1, (wordF (y 7) k (L - ((k, nI k, g.2.2.1, 0, 0, g.2.2.2.2.2.1, g.2.2.2.2.2.2)).1) ((k, nI k, g.2.2.1, 0, 0, g.2.2.2.2.2.1, g.2.2.2.2.2.2)).1 ((k, nI k, g.2.2.1, 0, 0, g.2.2.2.2.2.1, g.2.2.2.2.2.2)).2.2.2.2.1).2, ((k, nI k, g.2.2.1, 0, 0, g.2.2.2.2.2.1, g.2.2.2.2.2.2)).2.2.2.2.2.1, ((k, nI k, g.2.2.1, 0, 0, g.2.2.2.2.2.1, g.2.2.2.2.2.2)).2.2.2.2.2.2)) : va_W) = (PARW T b y (tokP (y 7) L g)) := by unfold tokP; rw [hT]; first | done | rfl | (rw [if_pos c141]; done) | (rw [if_neg c141]; done)
            exact hret _ _ _ _ dX10_next_159 (by rw [← hE]; exact hP) (by rw [← hE]; exact hD) hS
        ·
          have c78 : k = L := (nI_eq (a := k) (b := L) (by omega) (by omega)).mp c78
          have hT := tkR_end hR9 c78
          refine lv_aload_n hx hb dX10_next_81 rfl (lv_at hl 0 rfl) ?_
          refine lv_iconst (v := 0) hx hb dX10_next_82 (by decide) ?_
          refine va_put (D := D) (ci := 10) (v := .int (0)) (ty := .int) (C := RX10) (T := TX10) (N := 19) hx hb hts i10 tyX10 tyX10_ok nmX10 hown hK hP hD hS 0 rfl rfl 13 (by decide) w7 (fun _ h9 => h9) rfl (by decide +kernel) rfl rfl (Nat.le_of_ble_eq_true rfl) dX10_next_83 (fun H locs hP hD hS => ?_)
          have hP : va_P D vwCl (PARW T b y ((k, nI k, 0, 0, 0, g.2.2.2.2.2.1, g.2.2.2.2.2.2))) H := hP
          have hD : va_D A (PARW T b y ((k, nI k, 0, 0, 0, g.2.2.2.2.2.1, g.2.2.2.2.2.2))) := hD
          refine lv_goto (tgt := 159) hx hb dX10_next_86 (by decide) ?_
          have hE : (PARW T b y ((k, nI k, 0, 0, 0, g.2.2.2.2.2.1, g.2.2.2.2.2.2)) : va_W) = (PARW T b y (tokP (y 7) L g)) := by unfold tokP; rw [hT]; first | done | rfl | (rw [if_pos c141]; done) | (rw [if_neg c141]; done)
          exact hret _ _ _ _ dX10_next_159 (by rw [← hE]; exact hP) (by rw [← hE]; exact hD) hS
      ·
        have c8 : ¬ L ≤ k := fun h9 => c8 ((nI_leI (a := L) (b := k) (by omega) (by omega)).mpr h9)
        refine lv_aload_n hx hb dX10_next_11 rfl (lv_at hl 0 rfl) ?_
        refine va_get (D := D) (ci := 10) (v := .ref (b 7)) (C := RX10) (T := TX10) (N := 19) hx hb hts i10 hown hK hP 0 rfl rfl 7 (by decide) w3 (fun _ h9 => h9) rfl dX10_next_12 ?_
        refine lv_aload_n hx hb dX10_next_15 rfl (lv_at hl 0 rfl) ?_
        refine va_get (D := D) (ci := 10) (v := .int (nI k)) (C := RX10) (T := TX10) (N := 19) hx hb hts i10 hown hK hP 0 rfl rfl 11 (by decide) w1 (fun _ h9 => h9) rfl dX10_next_16 ?_
        refine aldI hx hb hK hP 7 0 rfl rfl (k) rfl (by omega) (by decide) dX10_next_19 ?_
        refine endI (r := y 7 k) rfl ?_
        refine lv_bipush (v := 32) hx hb dX10_next_20 (by decide) ?_
        refine lv_icmp_eq (tgt := 39) hx hb dX10_next_22 (by decide) (fun c22 => ?_) (fun c22 => ?_)
        ·
          refine lv_aload_n hx hb dX10_next_39 rfl (lv_at hl 0 rfl) ?_
          refine lv_dup hx hb dX10_next_40 rfl ?_
          refine va_get (D := D) (ci := 10) (v := .int (nI k)) (C := RX10) (T := TX10) (N := 19) hx hb hts i10 hown hK hP 0 rfl rfl 11 (by decide) w1 (fun _ h9 => h9) rfl dX10_next_41 ?_
          refine lv_iconst (v := 1) hx hb dX10_next_44 (by decide) ?_
          refine lv_iadd hx hb dX10_next_45 ?_
          refine endI (r := nI (k + 1)) (nI_add _ _) ?_
          refine va_put (D := D) (ci := 10) (v := .int (nI (k + 1))) (ty := .int) (C := RX10) (T := TX10) (N := 19) hx hb hts i10 tyX10 tyX10_ok nmX10 hown hK hP hD hS 0 rfl rfl 11 (by decide) w1 (fun _ h9 => h9) rfl (by decide +kernel) rfl rfl (Nat.le_of_ble_eq_true rfl) dX10_next_46 (fun H locs hP hD hS => ?_)
          have hP : va_P D vwCl (PARW T b y ((k + 1, g.2.1, g.2.2.1, g.2.2.2.1, g.2.2.2.2.1, g.2.2.2.2.2.1, g.2.2.2.2.2.2))) H := hP
          have hD : va_D A (PARW T b y ((k + 1, g.2.1, g.2.2.1, g.2.2.2.1, g.2.2.2.2.1, g.2.2.2.2.2.1, g.2.2.2.2.2.2))) := hD
          refine lv_goto (tgt := 0) hx hb dX10_next_49 (by decide) ?_
          exact ih (k + 1) (by omega) (by omega) (by rw [runN_step (by omega) (by simp [blankB, c8, c22])] at hR; exact hR) _ _ _ hP hD hS (lv_sub hl [0] rfl)
        ·
          refine lv_aload_n hx hb dX10_next_25 rfl (lv_at hl 0 rfl) ?_
          refine va_get (D := D) (ci := 10) (v := .ref (b 7)) (C := RX10) (T := TX10) (N := 19) hx hb hts i10 hown hK hP 0 rfl rfl 7 (by decide) w3 (fun _ h9 => h9) rfl dX10_next_26 ?_
          refine lv_aload_n hx hb dX10_next_29 rfl (lv_at hl 0 rfl) ?_
          refine va_get (D := D) (ci := 10) (v := .int (nI k)) (C := RX10) (T := TX10) (N := 19) hx hb hts i10 hown hK hP 0 rfl rfl 11 (by decide) w1 (fun _ h9 => h9) rfl dX10_next_30 ?_
          refine aldI hx hb hK hP 7 0 rfl rfl (k) rfl (by omega) (by decide) dX10_next_33 ?_
          refine endI (r := y 7 k) rfl ?_
          refine lv_bipush (v := 10) hx hb dX10_next_34 (by decide) ?_
          refine lv_icmp_ne (tgt := 52) hx hb dX10_next_36 (by decide) (fun c36 => ?_) (fun c36 => ?_)
          ·
            have hR9 : runN blankB (y 7) (L - g.1) g.1 = k := by rw [← hR]; exact runN_stop (by simp [blankB, c22, c36])
            refine lv_aload_n hx hb dX10_next_52 rfl (lv_at hl 0 rfl) ?_
            refine lv_aload_n hx hb dX10_next_53 rfl (lv_at hl 0 rfl) ?_
            refine va_get (D := D) (ci := 10) (v := .int (nI k)) (C := RX10) (T := TX10) (N := 19) hx hb hts i10 hown hK hP 0 rfl rfl 11 (by decide) w1 (fun _ h9 => h9) rfl dX10_next_54 ?_
            refine va_put (D := D) (ci := 10) (v := .int (nI k)) (ty := .int) (C := RX10) (T := TX10) (N := 19) hx hb hts i10 tyX10 tyX10_ok nmX10 hown hK hP hD hS 0 rfl rfl 12 (by decide) w4 (fun _ h9 => h9) rfl (by decide +kernel) rfl rfl (Nat.le_of_ble_eq_true rfl) dX10_next_57 (fun H locs hP hD hS => ?_)
            have hP : va_P D vwCl (PARW T b y ((k, nI k, g.2.2.1, g.2.2.2.1, g.2.2.2.2.1, g.2.2.2.2.2.1, g.2.2.2.2.2.2))) H := hP
            have hD : va_D A (PARW T b y ((k, nI k, g.2.2.1, g.2.2.2.1, g.2.2.2.2.1, g.2.2.2.2.2.1, g.2.2.2.2.2.2))) := hD
            refine lv_aload_n hx hb dX10_next_60 rfl (lv_at hl 0 rfl) ?_
            refine lv_iconst (v := 0) hx hb dX10_next_61 (by decide) ?_
            refine va_put (D := D) (ci := 10) (v := .int (0)) (ty := .int) (C := RX10) (T := TX10) (N := 19) hx hb hts i10 tyX10 tyX10_ok nmX10 hown hK hP hD hS 0 rfl rfl 14 (by decide) w5 (fun _ h9 => h9) rfl (by decide +kernel) rfl rfl (Nat.le_of_ble_eq_true rfl) dX10_next_62 (fun H locs hP hD hS => ?_)
            have hP : va_P D vwCl (PARW T b y ((k, nI k, g.2.2.1, 0, g.2.2.2.2.1, g.2.2.2.2.2.1, g.2.2.2.2.2.2))) H := hP
            have hD : va_D A (PARW T b y ((k, nI k, g.2.2.1, 0, g.2.2.2.2.1, g.2.2.2.2.2.1, g.2.2.2.2.2.2))) := hD
            refine lv_aload_n hx hb dX10_next_65 rfl (lv_at hl 0 rfl) ?_
            refine lv_lconst (v := 0) hx hb dX10_next_66 rfl ?_
            refine va_put (D := D) (ci := 10) (v := .long (0)) (ty := .long) (C := RX10) (T := TX10) (N := 19) hx hb hts i10 tyX10 tyX10_ok nmX10 hown hK hP hD hS 0 rfl rfl 15 (by decide) w6 (fun _ h9 => h9) rfl (by decide +kernel) rfl rfl (Nat.le_of_ble_eq_true rfl) dX10_next_67 (fun H locs hP hD hS => ?_)
            have hP : va_P D vwCl (PARW T b y ((k, nI k, g.2.2.1, 0, 0, g.2.2.2.2.2.1, g.2.2.2.2.2.2))) H := hP
            have hD : va_D A (PARW T b y ((k, nI k, g.2.2.1, 0, 0, g.2.2.2.2.2.1, g.2.2.2.2.2.2))) := hD
            refine lv_aload_n hx hb dX10_next_70 rfl (lv_at hl 0 rfl) ?_
            refine va_get (D := D) (ci := 10) (v := .int (nI k)) (C := RX10) (T := TX10) (N := 19) hx hb hts i10 hown hK hP 0 rfl rfl 11 (by decide) w1 (fun _ h9 => h9) rfl dX10_next_71 ?_
            refine lv_aload_n hx hb dX10_next_74 rfl (lv_at hl 0 rfl) ?_
            refine va_get (D := D) (ci := 10) (v := .int (y 0 1)) (C := RX10) (T := TX10) (N := 19) hx hb hts i10 hown hK hP 0 rfl rfl 8 (by decide) w2 (fun _ h9 => h9) rfl dX10_next_75 ?_
            refine endI (r := nI L) (hL) ?_
            refine lv_icmp_ne (tgt := 89) hx hb dX10_next_78 (by decide) (fun c78 => ?_) (fun c78 => ?_)
            ·
              have c78 : ¬ k = L := fun h9 => c78 ((nI_eq (a := k) (b := L) (by omega) (by omega)).mpr h9)
              refine lv_aload_n hx hb dX10_next_89 rfl (lv_at hl 0 rfl) ?_
              refine lv_aload_n hx hb dX10_next_90 rfl (lv_at hl 0 rfl) ?_
              refine va_get (D := D) (ci := 10) (v := .int (nI k)) (C := RX10) (T := TX10) (N := 19) hx hb hts i10 hown hK hP 0 rfl rfl 11 (by decide) w1 (fun _ h9 => h9) rfl dX10_next_91 ?_
              refine rdV (As := [.int (nI k)]) (rest := []) ⟨hx, hb, hml, hown, hts⟩ (c_X10_isSmall l D T b y ((k, nI k, g.2.2.1, 0, 0, g.2.2.2.2.2.1, g.2.2.2.2.2.2)) k L hL hL2 (by omega)) (cwV 1 hts gX10_next_X10_isSmall rfl rfl rfl (by decide +kernel) ⟨Nat.le_of_ble_eq_true rfl, Nat.le_of_ble_eq_true rfl⟩) hK hP 0 rfl rfl rfl hl.1 rfl (Nat.le_of_ble_eq_true rfl) ⟨Nat.zero_le _, Nat.zero_le _⟩ dX10_next_94 ?_
              refine lv_if_eq (tgt := 107) hx hb dX10_next_97 (by decide) (fun c97 => ?_) (fun c97 => ?_)
              ·
                have c97 := bI_0.mp c97
                have c97 : smallB (y 7 k) = false := by simpa [show k < L by omega] using c97
                refine lv_aload_n hx hb dX10_next_107 rfl (lv_at hl 0 rfl) ?_
                refine lv_aload_n hx hb dX10_next_108 rfl (lv_at hl 0 rfl) ?_
                refine va_get (D := D) (ci := 10) (v := .int (nI k)) (C := RX10) (T := TX10) (N := 19) hx hb hts i10 hown hK hP 0 rfl rfl 11 (by decide) w1 (fun _ h9 => h9) rfl dX10_next_109 ?_
                refine rdV (As := [.int (nI k)]) (rest := []) ⟨hx, hb, hml, hown, hts⟩ (c_X10_isDigit l D T b y ((k, nI k, g.2.2.1, 0, 0, g.2.2.2.2.2.1, g.2.2.2.2.2.2)) k L hL hL2 (by omega)) (cwV 1 hts gX10_next_X10_isDigit rfl rfl rfl (by decide +kernel) ⟨Nat.le_of_ble_eq_true rfl, Nat.le_of_ble_eq_true rfl⟩) hK hP 0 rfl rfl rfl hl.1 rfl (Nat.le_of_ble_eq_true rfl) ⟨Nat.zero_le _, Nat.zero_le _⟩ dX10_next_112 ?_
                refine lv_if_eq (tgt := 125) hx hb dX10_next_115 (by decide) (fun c115 => ?_) (fun c115 => ?_)
                ·
                  have c115 := bI_0.mp c115
                  have c115 : digB (y 7 k) = false := by simpa [show k < L by omega] using c115
                  have hT := tkR_other hR9 c78 c97 c115
                  refine lv_aload_n hx hb dX10_next_125 rfl (lv_at hl 0 rfl) ?_
                  refine lv_iconst (v := 4) hx hb dX10_next_126 (by decide) ?_
                  refine va_put (D := D) (ci := 10) (v := .int (4)) (ty := .int) (C := RX10) (T := TX10) (N := 19) hx hb hts i10 tyX10 tyX10_ok nmX10 hown hK hP hD hS 0 rfl rfl 13 (by decide) w7 (fun _ h9 => h9) rfl (by decide +kernel) rfl rfl (Nat.le_of_ble_eq_true rfl) dX10_next_127 (fun H locs hP hD hS => ?_)
                  have hP : va_P D vwCl (PARW T b y ((k, nI k, 4, 0, 0, g.2.2.2.2.2.1, g.2.2.2.2.2.2))) H := hP
                  have hD : va_D A (PARW T b y ((k, nI k, 4, 0, 0, g.2.2.2.2.2.1, g.2.2.2.2.2.2))) := hD
                  refine lv_aload_n hx hb dX10_next_130 rfl (lv_at hl 0 rfl) ?_
                  refine va_get (D := D) (ci := 10) (v := .ref (b 7)) (C := RX10) (T := TX10) (N := 19) hx hb hts i10 hown hK hP 0 rfl rfl 7 (by decide) w3 (fun _ h9 => h9) rfl dX10_next_131 ?_
                  refine lv_aload_n hx hb dX10_next_134 rfl (lv_at hl 0 rfl) ?_
                  refine va_get (D := D) (ci := 10) (v := .int (nI k)) (C := RX10) (T := TX10) (N := 19) hx hb hts i10 hown hK hP 0 rfl rfl 11 (by decide) w1 (fun _ h9 => h9) rfl dX10_next_135 ?_
                  refine aldI hx hb hK hP 7 0 rfl rfl (k) rfl (by omega) (by decide) dX10_next_138 ?_
                  refine endI (r := y 7 k) rfl ?_
                  refine lv_bipush (v := 59) hx hb dX10_next_139 (by decide) ?_
                  refine lv_icmp_ne (tgt := 149) hx hb dX10_next_141 (by decide) (fun c141 => ?_) (fun c141 => ?_)
                  ·
                    refine lv_aload_n hx hb dX10_next_149 rfl (lv_at hl 0 rfl) ?_
                    refine lv_dup hx hb dX10_next_150 rfl ?_
                    refine va_get (D := D) (ci := 10) (v := .int (nI k)) (C := RX10) (T := TX10) (N := 19) hx hb hts i10 hown hK hP 0 rfl rfl 11 (by decide) w1 (fun _ h9 => h9) rfl dX10_next_151 ?_
                    refine lv_iconst (v := 1) hx hb dX10_next_154 (by decide) ?_
                    refine lv_iadd hx hb dX10_next_155 ?_
                    refine endI (r := nI (k + 1)) (nI_add _ _) ?_
                    refine va_put (D := D) (ci := 10) (v := .int (nI (k + 1))) (ty := .int) (C := RX10) (T := TX10) (N := 19) hx hb hts i10 tyX10 tyX10_ok nmX10 hown hK hP hD hS 0 rfl rfl 11 (by decide) w1 (fun _ h9 => h9) rfl (by decide +kernel) rfl rfl (Nat.le_of_ble_eq_true rfl) dX10_next_156 (fun H locs hP hD hS => ?_)
                    have hP : va_P D vwCl (PARW T b y ((k + 1, nI k, 4, 0, 0, g.2.2.2.2.2.1, g.2.2.2.2.2.2))) H := hP
                    have hD : va_D A (PARW T b y ((k + 1, nI k, 4, 0, 0, g.2.2.2.2.2.1, g.2.2.2.2.2.2))) := hD
                    have hE : (PARW T b y ((k + 1, nI k, 4, 0, 0, g.2.2.2.2.2.1, g.2.2.2.2.2.2)) : va_W) = (PARW T b y (tokP (y 7) L g)) := by unfold tokP; rw [hT]; first | done | rfl | (rw [if_pos c141]; done) | (rw [if_neg c141]; done)
                    exact hret _ _ _ _ dX10_next_159 (by rw [← hE]; exact hP) (by rw [← hE]; exact hD) hS
                  ·
                    refine lv_aload_n hx hb dX10_next_144 rfl (lv_at hl 0 rfl) ?_
                    refine lv_iconst (v := 3) hx hb dX10_next_145 (by decide) ?_
                    refine va_put (D := D) (ci := 10) (v := .int (3)) (ty := .int) (C := RX10) (T := TX10) (N := 19) hx hb hts i10 tyX10 tyX10_ok nmX10 hown hK hP hD hS 0 rfl rfl 13 (by decide) w7 (fun _ h9 => h9) rfl (by decide +kernel) rfl rfl (Nat.le_of_ble_eq_true rfl) dX10_next_146 (fun H locs hP hD hS => ?_)
                    have hP : va_P D vwCl (PARW T b y ((k, nI k, 3, 0, 0, g.2.2.2.2.2.1, g.2.2.2.2.2.2))) H := hP
                    have hD : va_D A (PARW T b y ((k, nI k, 3, 0, 0, g.2.2.2.2.2.1, g.2.2.2.2.2.2))) := hD
                    refine lv_aload_n hx hb dX10_next_149 rfl (lv_at hl 0 rfl) ?_
                    refine lv_dup hx hb dX10_next_150 rfl ?_
                    refine va_get (D := D) (ci := 10) (v := .int (nI k)) (C := RX10) (T := TX10) (N := 19) hx hb hts i10 hown hK hP 0 rfl rfl 11 (by decide) w1 (fun _ h9 => h9) rfl dX10_next_151 ?_
                    refine lv_iconst (v := 1) hx hb dX10_next_154 (by decide) ?_
                    refine lv_iadd hx hb dX10_next_155 ?_
                    refine endI (r := nI (k + 1)) (nI_add _ _) ?_
                    refine va_put (D := D) (ci := 10) (v := .int (nI (k + 1))) (ty := .int) (C := RX10) (T := TX10) (N := 19) hx hb hts i10 tyX10 tyX10_ok nmX10 hown hK hP hD hS 0 rfl rfl 11 (by decide) w1 (fun _ h9 => h9) rfl (by decide +kernel) rfl rfl (Nat.le_of_ble_eq_true rfl) dX10_next_156 (fun H locs hP hD hS => ?_)
                    have hP : va_P D vwCl (PARW T b y ((k + 1, nI k, 3, 0, 0, g.2.2.2.2.2.1, g.2.2.2.2.2.2))) H := hP
                    have hD : va_D A (PARW T b y ((k + 1, nI k, 3, 0, 0, g.2.2.2.2.2.1, g.2.2.2.2.2.2))) := hD
                    have hE : (PARW T b y ((k + 1, nI k, 3, 0, 0, g.2.2.2.2.2.1, g.2.2.2.2.2.2)) : va_W) = (PARW T b y (tokP (y 7) L g)) := by unfold tokP; rw [hT]; first | done | rfl | (rw [if_pos c141]; done) | (rw [if_neg c141]; done)
                    exact hret _ _ _ _ dX10_next_159 (by rw [← hE]; exact hP) (by rw [← hE]; exact hD) hS
                ·
                  have c115 := bI_n0.mp c115
                  have c115 : digB (y 7 k) = true := by simpa [show k < L by omega] using c115
                  have hT := tkR_num hR9 c78 c97 c115
                  refine lv_aload_n hx hb dX10_next_118 rfl (lv_at hl 0 rfl) ?_
                  refine wrVv (As := []) (rest := []) ⟨hx, hb, hml, hown, hts⟩ (c_X10_nextNumber l D T b y ((k, nI k, g.2.2.1, 0, 0, g.2.2.2.2.2.1, g.2.2.2.2.2.2)) k L hL hL2 hk9 rfl (Nat.le_refl _) _) (cwV 0 hts gX10_next_X10_nextNumber rfl rfl rfl (by decide +kernel) ⟨Nat.le_of_ble_eq_true rfl, Nat.le_of_ble_eq_true rfl⟩) (Foc.rfl _ _) hK hP hD hS hA 0 rfl rfl rfl hl.1 rfl (Nat.le_of_ble_eq_true rfl) ⟨Nat.zero_le _, Nat.zero_le _⟩ dX10_next_119 (fun H locs hP hD hS => ?_)
                  have hP : va_P D vwCl (PARW T b y (((numF (y 7) k (L - ((k, nI k, g.2.2.1, 0, 0, g.2.2.2.2.2.1, g.2.2.2.2.2.2)).1) ((k, nI k, g.2.2.1, 0, 0, g.2.2.2.2.2.1, g.2.2.2.2.2.2)).1 ((k, nI k, g.2.2.1, 0, 0, g.2.2.2.2.2.1, g.2.2.2.2.2.2)).2.2.2.1).1, ((k, nI k, g.2.2.1, 0, 0, g.2.2.2.2.2.1, g.2.2.2.2.2.2)).2.1, (if 2 < (numF (y 7) k (L - ((k, nI k, g.2.2.1, 0, 0, g.2.2.2.2.2.1, g.2.2.2.2.2.2)).1) ((k, nI k, g.2.2.1, 0, 0, g.2.2.2.2.2.1, g.2.2.2.2.2.2)).1 ((k, nI k, g.2.2.1, 0, 0, g.2.2.2.2.2.1, g.2.2.2.2.2.2)).2.2.2.1).1 - k then 4 else 2), (numF (y 7) k (L - ((k, nI k, g.2.2.1, 0, 0, g.2.2.2.2.2.1, g.2.2.2.2.2.2)).1) ((k, nI k, g.2.2.1, 0, 0, g.2.2.2.2.2.1, g.2.2.2.2.2.2)).1 ((k, nI k, g.2.2.1, 0, 0, g.2.2.2.2.2.1, g.2.2.2.2.2.2)).2.2.2.1).2, ((k, nI k, g.2.2.1, 0, 0, g.2.2.2.2.2.1, g.2.2.2.2.2.2)).2.2.2.2.1, ((k, nI k, g.2.2.1, 0, 0, g.2.2.2.2.2.1, g.2.2.2.2.2.2)).2.2.2.2.2.1, ((k, nI k, g.2.2.1, 0, 0, g.2.2.2.2.2.1, g.2.2.2.2.2.2)).2.2.2.2.2.2))) H := hP
                  have hD : va_D A (PARW T b y (((numF (y 7) k (L - ((k, nI k, g.2.2.1, 0, 0, g.2.2.2.2.2.1, g.2.2.2.2.2.2)).1) ((k, nI k, g.2.2.1, 0, 0, g.2.2.2.2.2.1, g.2.2.2.2.2.2)).1 ((k, nI k, g.2.2.1, 0, 0, g.2.2.2.2.2.1, g.2.2.2.2.2.2)).2.2.2.1).1, ((k, nI k, g.2.2.1, 0, 0, g.2.2.2.2.2.1, g.2.2.2.2.2.2)).2.1, (if 2 < (numF (y 7) k (L - ((k, nI k, g.2.2.1, 0, 0, g.2.2.2.2.2.1, g.2.2.2.2.2.2)).1) ((k, nI k, g.2.2.1, 0, 0, g.2.2.2.2.2.1, g.2.2.2.2.2.2)).1 ((k, nI k, g.2.2.1, 0, 0, g.2.2.2.2.2.1, g.2.2.2.2.2.2)).2.2.2.1).1 - k then 4 else 2), (numF (y 7) k (L - ((k, nI k, g.2.2.1, 0, 0, g.2.2.2.2.2.1, g.2.2.2.2.2.2)).1) ((k, nI k, g.2.2.1, 0, 0, g.2.2.2.2.2.1, g.2.2.2.2.2.2)).1 ((k, nI k, g.2.2.1, 0, 0, g.2.2.2.2.2.1, g.2.2.2.2.2.2)).2.2.2.1).2, ((k, nI k, g.2.2.1, 0, 0, g.2.2.2.2.2.1, g.2.2.2.2.2.2)).2.2.2.2.1, ((k, nI k, g.2.2.1, 0, 0, g.2.2.2.2.2.1, g.2.2.2.2.2.2)).2.2.2.2.2.1, ((k, nI k, g.2.2.1, 0, 0, g.2.2.2.2.2.1, g.2.2.2.2.2.2)).2.2.2.2.2.2))) := hD
                  refine lv_goto (tgt := 159) hx hb dX10_next_122 (by decide) ?_
                  have hE : (PARW T b y (((numF (y 7) k (L - ((k, nI k, g.2.2.1, 0, 0, g.2.2.2.2.2.1, g.2.2.2.2.2.2)).1) ((k, nI k, g.2.2.1, 0, 0, g.2.2.2.2.2.1, g.2.2.2.2.2.2)).1 ((k, nI k, g.2.2.1, 0, 0, g.2.2.2.2.2.1, g.2.2.2.2.2.2)).2.2.2.1).1, ((k, nI k, g.2.2.1, 0, 0, g.2.2.2.2.2.1, g.2.2.2.2.2.2)).2.1, (if 2 < (numF (y 7) k (L - ((k, nI k, g.2.2.1, 0, 0, g.2.2.2.2.2.1, g.2.2.2.2.2.2)).1) ((k, nI k, g.2.2.1, 0, 0, g.2.2.2.2.2.1, g.2.2.2.2.2.2)).1 ((k, nI k, g.2.2.1, 0, 0, g.2.2.2.2.2.1, g.2.2.2.2.2.2)).2.2.2.1).1 - k then 4 else 2), (numF (y 7) k (L - ((k, nI k, g.2.2.1, 0, 0, g.2.2.2.2.2.1, g.2.2.2.2.2.2)).1) ((k, nI k, g.2.2.1, 0, 0, g.2.2.2.2.2.1, g.2.2.2.2.2.2)).1 ((k, nI k, g.2.2.1, 0, 0, g.2.2.2.2.2.1, g.2.2.2.2.2.2)).2.2.2.1).2, ((k, nI k, g.2.2.1, 0, 0, g.2.2.2.2.2.1, g.2.2.2.2.2.2)).2.2.2.2.1, ((k, nI k, g.2.2.1, 0, 0, g.2.2.2.2.2.1, g.2.2.2.2.2.2)).2.2.2.2.2.1, ((k, nI k, g.2.2.1, 0, 0, g.2.2.2.2.2.1, g.2.2.2.2.2.2)).2.2.2.2.2.2)) : va_W) = (PARW T b y (tokP (y 7) L g)) := by unfold tokP; rw [hT]; first | done | rfl | (rw [if_pos c141]; done) | (rw [if_neg c141]; done)
                  exact hret _ _ _ _ dX10_next_159 (by rw [← hE]; exact hP) (by rw [← hE]; exact hD) hS
              ·
                have c97 := bI_n0.mp c97
                have c97 : smallB (y 7 k) = true := by simpa [show k < L by omega] using c97
                have hT := tkR_word hR9 c78 c97
                refine lv_aload_n hx hb dX10_next_100 rfl (lv_at hl 0 rfl) ?_
                refine wrVv (As := []) (rest := []) ⟨hx, hb, hml, hown, hts⟩ (c_X10_nextWord l D T b y ((k, nI k, g.2.2.1, 0, 0, g.2.2.2.2.2.1, g.2.2.2.2.2.2)) k L hL hL2 hk9 rfl (Nat.le_refl _) _) (cwV 0 hts gX10_next_X10_nextWord rfl rfl rfl (by decide +kernel) ⟨Nat.le_of_ble_eq_true rfl, Nat.le_of_ble_eq_true rfl⟩) (Foc.rfl _ _) hK hP hD hS hA 0 rfl rfl rfl hl.1 rfl (Nat.le_of_ble_eq_true rfl) ⟨Nat.zero_le _, Nat.zero_le _⟩ dX10_next_101 (fun H locs hP hD hS => ?_)
                have hP : va_P D vwCl (PARW T b y (((wordF (y 7) k (L - ((k, nI k, g.2.2.1, 0, 0, g.2.2.2.2.2.1, g.2.2.2.2.2.2)).1) ((k, nI k, g.2.2.1, 0, 0, g.2.2.2.2.2.1, g.2.2.2.2.2.2)).1 ((k, nI k, g.2.2.1, 0, 0, g.2.2.2.2.2.1, g.2.2.2.2.2.2)).2.2.2.2.1).1, ((k, nI k, g.2.2.1, 0, 0, g.2.2.2.2.2.1, g.2.2.2.2.2.2)).2.1, 1, ((k, nI k, g.2.2.1, 0, 0, g.2.2.2.2.2.1, g.2.2.2.2.2.2)).2.2.2.1, (wordF (y 7) k (L - ((k, nI k, g.2.2.1, 0, 0, g.2.2.2.2.2.1, g.2.2.2.2.2.2)).1) ((k, nI k, g.2.2.1, 0, 0, g.2.2.2.2.2.1, g.2.2.2.2.2.2)).1 ((k, nI k, g.2.2.1, 0, 0, g.2.2.2.2.2.1, g.2.2.2.2.2.2)).2.2.2.2.1).2, ((k, nI k, g.2.2.1, 0, 0, g.2.2.2.2.2.1, g.2.2.2.2.2.2)).2.2.2.2.2.1, ((k, nI k, g.2.2.1, 0, 0, g.2.2.2.2.2.1, g.2.2.2.2.2.2)).2.2.2.2.2.2))) H := hP
                have hD : va_D A (PARW T b y (((wordF (y 7) k (L - ((k, nI k, g.2.2.1, 0, 0, g.2.2.2.2.2.1, g.2.2.2.2.2.2)).1) ((k, nI k, g.2.2.1, 0, 0, g.2.2.2.2.2.1, g.2.2.2.2.2.2)).1 ((k, nI k, g.2.2.1, 0, 0, g.2.2.2.2.2.1, g.2.2.2.2.2.2)).2.2.2.2.1).1, ((k, nI k, g.2.2.1, 0, 0, g.2.2.2.2.2.1, g.2.2.2.2.2.2)).2.1, 1, ((k, nI k, g.2.2.1, 0, 0, g.2.2.2.2.2.1, g.2.2.2.2.2.2)).2.2.2.1, (wordF (y 7) k (L - ((k, nI k, g.2.2.1, 0, 0, g.2.2.2.2.2.1, g.2.2.2.2.2.2)).1) ((k, nI k, g.2.2.1, 0, 0, g.2.2.2.2.2.1, g.2.2.2.2.2.2)).1 ((k, nI k, g.2.2.1, 0, 0, g.2.2.2.2.2.1, g.2.2.2.2.2.2)).2.2.2.2.1).2, ((k, nI k, g.2.2.1, 0, 0, g.2.2.2.2.2.1, g.2.2.2.2.2.2)).2.2.2.2.2.1, ((k, nI k, g.2.2.1, 0, 0, g.2.2.2.2.2.1, g.2.2.2.2.2.2)).2.2.2.2.2.2))) := hD
                refine lv_goto (tgt := 159) hx hb dX10_next_104 (by decide) ?_
                have hE : (PARW T b y (((wordF (y 7) k (L - ((k, nI k, g.2.2.1, 0, 0, g.2.2.2.2.2.1, g.2.2.2.2.2.2)).1) ((k, nI k, g.2.2.1, 0, 0, g.2.2.2.2.2.1, g.2.2.2.2.2.2)).1 ((k, nI k, g.2.2.1, 0, 0, g.2.2.2.2.2.1, g.2.2.2.2.2.2)).2.2.2.2.1).1, ((k, nI k, g.2.2.1, 0, 0, g.2.2.2.2.2.1, g.2.2.2.2.2.2)).2.1, 1, ((k, nI k, g.2.2.1, 0, 0, g.2.2.2.2.2.1, g.2.2.2.2.2.2)).2.2.2.1, (wordF (y 7) k (L - ((k, nI k, g.2.2.1, 0, 0, g.2.2.2.2.2.1, g.2.2.2.2.2.2)).1) ((k, nI k, g.2.2.1, 0, 0, g.2.2.2.2.2.1, g.2.2.2.2.2.2)).1 ((k, nI k, g.2.2.1, 0, 0, g.2.2.2.2.2.1, g.2.2.2.2.2.2)).2.2.2.2.1).2, ((k, nI k, g.2.2.1, 0, 0, g.2.2.2.2.2.1, g.2.2.2.2.2.2)).2.2.2.2.2.1, ((k, nI k, g.2.2.1, 0, 0, g.2.2.2.2.2.1, g.2.2.2.2.2.2)).2.2.2.2.2.2)) : va_W) = (PARW T b y (tokP (y 7) L g)) := by unfold tokP; rw [hT]; first | done | rfl | (rw [if_pos c141]; done) | (rw [if_neg c141]; done)
                exact hret _ _ _ _ dX10_next_159 (by rw [← hE]; exact hP) (by rw [← hE]; exact hD) hS
            ·
              have c78 : k = L := (nI_eq (a := k) (b := L) (by omega) (by omega)).mp c78
              have hT := tkR_end hR9 c78
              refine lv_aload_n hx hb dX10_next_81 rfl (lv_at hl 0 rfl) ?_
              refine lv_iconst (v := 0) hx hb dX10_next_82 (by decide) ?_
              refine va_put (D := D) (ci := 10) (v := .int (0)) (ty := .int) (C := RX10) (T := TX10) (N := 19) hx hb hts i10 tyX10 tyX10_ok nmX10 hown hK hP hD hS 0 rfl rfl 13 (by decide) w7 (fun _ h9 => h9) rfl (by decide +kernel) rfl rfl (Nat.le_of_ble_eq_true rfl) dX10_next_83 (fun H locs hP hD hS => ?_)
              have hP : va_P D vwCl (PARW T b y ((k, nI k, 0, 0, 0, g.2.2.2.2.2.1, g.2.2.2.2.2.2))) H := hP
              have hD : va_D A (PARW T b y ((k, nI k, 0, 0, 0, g.2.2.2.2.2.1, g.2.2.2.2.2.2))) := hD
              refine lv_goto (tgt := 159) hx hb dX10_next_86 (by decide) ?_
              have hE : (PARW T b y ((k, nI k, 0, 0, 0, g.2.2.2.2.2.1, g.2.2.2.2.2.2)) : va_W) = (PARW T b y (tokP (y 7) L g)) := by unfold tokP; rw [hT]; first | done | rfl | (rw [if_pos c141]; done) | (rw [if_neg c141]; done)
              exact hret _ _ _ _ dX10_next_159 (by rw [← hE]; exact hP) (by rw [← hE]; exact hD) hS
          ·
            refine lv_aload_n hx hb dX10_next_39 rfl (lv_at hl 0 rfl) ?_
            refine lv_dup hx hb dX10_next_40 rfl ?_
            refine va_get (D := D) (ci := 10) (v := .int (nI k)) (C := RX10) (T := TX10) (N := 19) hx hb hts i10 hown hK hP 0 rfl rfl 11 (by decide) w1 (fun _ h9 => h9) rfl dX10_next_41 ?_
            refine lv_iconst (v := 1) hx hb dX10_next_44 (by decide) ?_
            refine lv_iadd hx hb dX10_next_45 ?_
            refine endI (r := nI (k + 1)) (nI_add _ _) ?_
            refine va_put (D := D) (ci := 10) (v := .int (nI (k + 1))) (ty := .int) (C := RX10) (T := TX10) (N := 19) hx hb hts i10 tyX10 tyX10_ok nmX10 hown hK hP hD hS 0 rfl rfl 11 (by decide) w1 (fun _ h9 => h9) rfl (by decide +kernel) rfl rfl (Nat.le_of_ble_eq_true rfl) dX10_next_46 (fun H locs hP hD hS => ?_)
            have hP : va_P D vwCl (PARW T b y ((k + 1, g.2.1, g.2.2.1, g.2.2.2.1, g.2.2.2.2.1, g.2.2.2.2.2.1, g.2.2.2.2.2.2))) H := hP
            have hD : va_D A (PARW T b y ((k + 1, g.2.1, g.2.2.1, g.2.2.2.1, g.2.2.2.2.1, g.2.2.2.2.2.1, g.2.2.2.2.2.2))) := hD
            refine lv_goto (tgt := 0) hx hb dX10_next_49 (by decide) ?_
            exact ih (k + 1) (by omega) (by omega) (by rw [runN_step (by omega) (by simp [blankB, c8, c22, c36])] at hR; exact hR) _ _ _ hP hD hS (lv_sub hl [0] rfl)
  exact L0 _ g.1 (Nat.lt_succ_self _) (by omega) (by rfl) _ _ _ hP hD hS (lv_sub hl [0] rfl)

set_option maxHeartbeats 4000000 in
set_option maxRecDepth 100000 in
theorem c_X10_isWord (l : Launch) (D : va_G) (T : Nat → ClassId) (b : Nat → Nat) (y : Nat → Nat → Int32) (g : PSt) (z : Int64) : Met l yX10_isWord wsX10_isWord ({ frames := 0, cells := 0, slots := 0, locals := 0 } : Room) (va_Pc [.ref (b 0), .long (z)] (PR D T (PARW T b y g))) (QcRead (bI (wordB g z))) 0 0 (fun _ => False) := by
  refine metR (cc := cX10_isWord) (maxL := 3) (ty := .boolean) (by decide) rfl (by exact bI_nb _) (Nat.le_of_ble_eq_true rfl) ?_
  intro p e s m args below meth c Q ls hx hb hml hown hts hP hK hl hret
  have hown : s.vm.findClass RX10 = some m.cls := hown
  have hl : lv_has ls 3 [(0, .ref (b 0)), (1, .long (z))] := hl
  have i10 : ∀ w ∈ wsX100, w ∈ wsX10_isWord := by decide +kernel
  have w1 := hts (Cond.fieldLink RX10 185 "MoonComplaintWindowModel" "kind" "I") (List.mem_of_getElem? (i := 1) rfl)
  have w2 := hts (Cond.fieldLink RX10 181 "MoonComplaintWindowModel" "word" "J") (List.mem_of_getElem? (i := 2) rfl)
  refine lv_aload_n hx hb dX10_isWord_0 rfl (lv_at hl 0 rfl) ?_
  refine va_get (D := D) (ci := 10) (v := .int (g.2.2.1)) (C := RX10) (T := TX10) (N := 19) hx hb hts i10 hown hK hP 0 rfl rfl 13 (by decide) w1 (fun _ h9 => h9) rfl dX10_isWord_1 ?_
  refine lv_iconst (v := 1) hx hb dX10_isWord_4 (by decide) ?_
  refine lv_icmp_ne (tgt := 21) hx hb dX10_isWord_5 (by decide) (fun c5 => ?_) (fun c5 => ?_)
  ·
    refine lv_iconst (v := 0) hx hb dX10_isWord_21 (by decide) ?_
    refine endI (r := bI (wordB g z)) (by simp [bI, wordB, c5]) ?_
    exact hret ls _ dX10_isWord_22
  ·
    refine lv_aload_n hx hb dX10_isWord_8 rfl (lv_at hl 0 rfl) ?_
    refine va_get (D := D) (ci := 10) (v := .long (g.2.2.2.2.1)) (C := RX10) (T := TX10) (N := 19) hx hb hts i10 hown hK hP 0 rfl rfl 15 (by decide) w2 (fun _ h9 => h9) rfl dX10_isWord_9 ?_
    refine lv_lload_n hx hb dX10_isWord_12 rfl (lv_at hl 1 rfl) ?_
    refine W.lcmp hx hb dX10_isWord_13 ?_
    refine lv_if_ne (tgt := 21) hx hb dX10_isWord_14 (by decide) (fun c14 => ?_) (fun c14 => ?_)
    ·
      have c14 : ¬ _ = _ := fun h9 => c14 ((lg_cmp_eq _ _).mpr h9)
      refine lv_iconst (v := 0) hx hb dX10_isWord_21 (by decide) ?_
      refine endI (r := bI (wordB g z)) (by simp [bI, wordB, c5, c14]) ?_
      exact hret ls _ dX10_isWord_22
    ·
      have c14 := (lg_cmp_eq _ _).mp c14
      refine lv_iconst (v := 1) hx hb dX10_isWord_17 (by decide) ?_
      refine lv_goto (tgt := 22) hx hb dX10_isWord_18 (by decide) ?_
      refine endI (r := bI (wordB g z)) (by simp [bI, wordB, c5, c14]) ?_
      exact hret ls _ dX10_isWord_22

set_option maxHeartbeats 4000000 in
set_option maxRecDepth 100000 in
theorem c_X10_takes (l : Launch) (D : va_G) (T : Nat → ClassId) (b : Nat → Nat) (y : Nat → Nat → Int32) (g : PSt) (z : Bool) (L : Nat) (hL : y 0 1 = nI L) (hL2 : L ≤ 600) (hat : g.1 ≤ L) (sz : Nat) : Met l yX10_takes wsX10_takes ({ frames := 3, cells := 0, slots := 0, locals := 61 } : Room) (va_Pc [.ref (b 0), .int (bI z)] (PS D T (PARW T b y g) sz)) (va_Qi (fun r9 (_ : Unit) => r9 = (bI (z && !g.2.2.2.2.2.1))) (fun _ t => QS D T (va_A (PARW T b y g) sz) (PARW T b y (takesP (y 7) L z g)) t) (va_A (PARW T b y g) sz)) 0 0 (va_A (PARW T b y g) sz) := by
  refine metSi (cc := cX10_takes) (maxL := 2) (ty := .boolean) (by decide) rfl (by exact bI_nb _) (Nat.le_of_ble_eq_true rfl) ?_
  intro p e s m args below meth c Q ls A hx hb hml hown hts hP hK hD hA hS hl hret
  have hown : s.vm.findClass RX10 = some m.cls := hown
  have hl : lv_has ls 2 [(0, .ref (b 0)), (1, .int (bI z))] := hl
  have i10 : ∀ w ∈ wsX100, w ∈ wsX10_takes := by decide +kernel
  have w1 := hts (Cond.fieldLink RX10 204 "MoonComplaintWindowModel" "isWrong" "Z") (List.mem_of_getElem? (i := 1) rfl)
  have w2 := hts (Cond.fieldLink RX10 175 "MoonComplaintWindowModel" "begin" "I") (List.mem_of_getElem? (i := 2) rfl)
  have w3 := hts (Cond.fieldLink RX10 32 "MoonComplaintWindowModel" "error" "I") (List.mem_of_getElem? (i := 3) rfl)
  refine lv_aload_n hx hb dX10_takes_0 rfl (lv_at hl 0 rfl) ?_
  refine va_get (D := D) (ci := 10) (v := .int (bI g.2.2.2.2.2.1)) (C := RX10) (T := TX10) (N := 19) hx hb hts i10 hown hK hP 0 rfl rfl 16 (by decide) w1 (fun _ h9 => h9) rfl dX10_takes_1 ?_
  refine lv_if_eq (tgt := 9) hx hb dX10_takes_4 (by decide) (fun c4 => ?_) (fun c4 => ?_)
  ·
    have c4 := bI_0.mp c4
    refine lv_iload_n hx hb dX10_takes_9 rfl (lv_at hl 1 rfl) ?_
    refine lv_if_ne (tgt := 28) hx hb dX10_takes_10 (by decide) (fun c10 => ?_) (fun c10 => ?_)
    ·
      have c10 := bI_n0.mp c10
      refine lv_aload_n hx hb dX10_takes_28 rfl (lv_at hl 0 rfl) ?_
      refine wrVv (As := []) (rest := []) ⟨hx, hb, hml, hown, hts⟩ (c_X10_next l D T b y g L (by first | omega | assumption | decide) (by first | omega | assumption | decide) (by first | omega | assumption | decide) _) (cwV 0 hts gX10_takes_X10_next rfl rfl rfl (by decide +kernel) ⟨Nat.le_of_ble_eq_true rfl, Nat.le_of_ble_eq_true rfl⟩) (Foc.rfl _ _) hK hP hD hS hA 0 rfl rfl rfl hl.1 rfl (Nat.le_of_ble_eq_true rfl) ⟨Nat.zero_le _, Nat.zero_le _⟩ dX10_takes_29 (fun H locs hP hD hS => ?_)
      have hP : va_P D vwCl (PARW T b y (tokP (y 7) L g)) H := hP
      have hD : va_D A (PARW T b y (tokP (y 7) L g)) := hD
      refine lv_iconst (v := 1) hx hb dX10_takes_32 (by decide) ?_
      refine endI (r := bI (z && !g.2.2.2.2.2.1)) (by simp [bI, c4, c10]) ?_
      have hE : (PARW T b y (tokP (y 7) L g) : va_W) = (PARW T b y (takesP (y 7) L z g)) := by first | (rw [takesP_w c4]; done) | (rw [takesP_f c4 c10]; done) | (rw [takesP_f c4 c10]; rfl) | (rw [takesP_t c4 c10]; done) | (rw [takesP_t c4 c10]; rfl)
      exact hret _ _ _ _ dX10_takes_33 (by rw [← hE]; exact hP) (by rw [← hE]; exact hD) hS
    ·
      have c10 := bI_0.mp c10
      refine lv_aload_n hx hb dX10_takes_13 rfl (lv_at hl 0 rfl) ?_
      refine lv_iconst (v := 1) hx hb dX10_takes_14 (by decide) ?_
      refine va_put (D := D) (ci := 10) (v := .int (1)) (ty := .boolean) (C := RX10) (T := TX10) (N := 19) hx hb hts i10 tyX10 tyX10_ok nmX10 hown hK hP hD hS 0 rfl rfl 16 (by decide) w1 (fun _ h9 => h9) rfl (by decide +kernel) rfl rfl (Nat.le_of_ble_eq_true rfl) dX10_takes_15 (fun H locs hP hD hS => ?_)
      have hP : va_P D vwCl (PARW T b y ((g.1, g.2.1, g.2.2.1, g.2.2.2.1, g.2.2.2.2.1, true, g.2.2.2.2.2.2))) H := hP
      have hD : va_D A (PARW T b y ((g.1, g.2.1, g.2.2.1, g.2.2.2.1, g.2.2.2.2.1, true, g.2.2.2.2.2.2))) := hD
      refine lv_aload_n hx hb dX10_takes_18 rfl (lv_at hl 0 rfl) ?_
      refine lv_aload_n hx hb dX10_takes_19 rfl (lv_at hl 0 rfl) ?_
      refine va_get (D := D) (ci := 10) (v := .int (g.2.1)) (C := RX10) (T := TX10) (N := 19) hx hb hts i10 hown hK hP 0 rfl rfl 12 (by decide) w2 (fun _ h9 => h9) rfl dX10_takes_20 ?_
      refine va_put (D := D) (ci := 10) (v := .int (g.2.1)) (ty := .int) (C := RX10) (T := TX10) (N := 19) hx hb hts i10 tyX10 tyX10_ok nmX10 hown hK hP hD hS 0 rfl rfl 9 (by decide) w3 (fun _ h9 => h9) rfl (by decide +kernel) rfl rfl (Nat.le_of_ble_eq_true rfl) dX10_takes_23 (fun H locs hP hD hS => ?_)
      have hP : va_P D vwCl (PARW T b y ((g.1, g.2.1, g.2.2.1, g.2.2.2.1, g.2.2.2.2.1, true, g.2.1))) H := hP
      have hD : va_D A (PARW T b y ((g.1, g.2.1, g.2.2.1, g.2.2.2.1, g.2.2.2.2.1, true, g.2.1))) := hD
      refine lv_iconst (v := 0) hx hb dX10_takes_26 (by decide) ?_
      refine endI (r := bI (z && !g.2.2.2.2.2.1)) (by simp [bI, c4, c10]) ?_
      have hE : (PARW T b y ((g.1, g.2.1, g.2.2.1, g.2.2.2.1, g.2.2.2.2.1, true, g.2.1)) : va_W) = (PARW T b y (takesP (y 7) L z g)) := by first | (rw [takesP_w c4]; done) | (rw [takesP_f c4 c10]; done) | (rw [takesP_f c4 c10]; rfl) | (rw [takesP_t c4 c10]; done) | (rw [takesP_t c4 c10]; rfl)
      exact hret _ _ _ _ dX10_takes_27 (by rw [← hE]; exact hP) (by rw [← hE]; exact hD) hS
  ·
    have c4 := bI_n0.mp c4
    refine lv_iconst (v := 0) hx hb dX10_takes_7 (by decide) ?_
    refine endI (r := bI (z && !g.2.2.2.2.2.1)) (by simp [bI, c4]) ?_
    have hE : (PARW T b y g : va_W) = (PARW T b y (takesP (y 7) L z g)) := by first | (rw [takesP_w c4]; done) | (rw [takesP_f c4 c10]; done) | (rw [takesP_f c4 c10]; rfl) | (rw [takesP_t c4 c10]; done) | (rw [takesP_t c4 c10]; rfl)
    exact hret _ _ _ _ dX10_takes_8 (by rw [← hE]; exact hP) (by rw [← hE]; exact hD) hS

set_option maxHeartbeats 4000000 in
set_option maxRecDepth 100000 in
theorem c_X10_takesNumber (l : Launch) (D : va_G) (T : Nat → ClassId) (b : Nat → Nat) (y : Nat → Nat → Int32) (g : PSt) (z : Int32) (z1 : Int32) (L : Nat) (hL : y 0 1 = nI L) (hL2 : L ≤ 600) (hat : g.1 ≤ L) (sz : Nat) : Met l yX10_takesNumber wsX10_takesNumber ({ frames := 4, cells := 0, slots := 0, locals := 82 } : Room) (va_Pc [.ref (b 0), .int (z), .int (z1)] (PS D T (PARW T b y g) sz)) (va_Qi (fun r9 (_ : Unit) => r9 = (numP z z1 g)) (fun _ t => QS D T (va_A (PARW T b y g) sz) (PARW T b y (numS (y 7) L z z1 g)) t) (va_A (PARW T b y g) sz)) 0 0 (va_A (PARW T b y g) sz) := by
  refine metSi (cc := cX10_takesNumber) (maxL := 4) (ty := .int) (by decide) rfl (by rfl) (Nat.le_of_ble_eq_true rfl) ?_
  intro p e s m args below meth c Q ls A hx hb hml hown hts hP hK hD hA hS hl hret
  have hown : s.vm.findClass RX10 = some m.cls := hown
  have hl : lv_has ls 4 [(0, .ref (b 0)), (1, .int (z)), (2, .int (z1))] := hl
  have i10 : ∀ w ∈ wsX100, w ∈ wsX10_takesNumber := by decide +kernel
  have w1 := hts (Cond.fieldLink RX10 178 "MoonComplaintWindowModel" "value" "I") (List.mem_of_getElem? (i := 1) rfl)
  have w2 := hts (Cond.fieldLink RX10 185 "MoonComplaintWindowModel" "kind" "I") (List.mem_of_getElem? (i := 2) rfl)
  refine lv_aload_n hx hb dX10_takesNumber_0 rfl (lv_at hl 0 rfl) ?_
  refine va_get (D := D) (ci := 10) (v := .int (g.2.2.2.1)) (C := RX10) (T := TX10) (N := 19) hx hb hts i10 hown hK hP 0 rfl rfl 14 (by decide) w1 (fun _ h9 => h9) rfl dX10_takesNumber_1 ?_
  refine lv_istore_n (lv' := [(3, .int (g.2.2.2.1)), (0, .ref (b 0)), (1, .int (z)), (2, .int (z1))]) hx hb dX10_takesNumber_4 rfl hl (by decide) rfl (fun ls hl => ?_)
  refine lv_aload_n hx hb dX10_takesNumber_5 rfl (lv_at hl 1 rfl) ?_
  have J6 : W p l e ({ frames := 4, cells := 0, slots := 0, locals := 82 } : Room) s m args below meth c s.heap [] 0 0 Q (F0 m 28 ls [.int (bI (decide (g.2.2.1 = 2) && rg g.2.2.2.1 z z1)), .ref (b 0)]) := by
    refine wrVi (As := [.int (bI (decide (g.2.2.1 = 2) && rg g.2.2.2.1 z z1))]) (rest := []) ⟨hx, hb, hml, hown, hts⟩ (c_X10_takes l D T b y g ((decide (g.2.2.1 = 2) && rg g.2.2.2.1 z z1)) L (by first | omega | assumption | decide) (by first | omega | assumption | decide) (by first | omega | assumption | decide) _) (cwV 1 hts gX10_takesNumber_X10_takes rfl rfl rfl (by decide +kernel) ⟨Nat.le_of_ble_eq_true rfl, Nat.le_of_ble_eq_true rfl⟩) (Foc.rfl _ _) hK hP hD hS hA 0 rfl rfl rfl hl.1 rfl (Nat.le_of_ble_eq_true rfl) ⟨Nat.zero_le _, Nat.zero_le _⟩ dX10_takesNumber_28 (fun H locs hP hD hS => ?_)
    have hP : va_P D vwCl (PARW T b y (takesP (y 7) L ((decide (g.2.2.1 = 2) && rg g.2.2.2.1 z z1)) g)) H := hP
    have hD : va_D A (PARW T b y (takesP (y 7) L ((decide (g.2.2.1 = 2) && rg g.2.2.2.1 z z1)) g)) := hD
    refine lv_if_eq (tgt := 36) hx hb dX10_takesNumber_31 (by decide) (fun c31 => ?_) (fun c31 => ?_)
    ·
      have c31 := bI_0.mp c31
      have c31 : ((decide (g.2.2.1 = 2) && rg g.2.2.2.1 z z1) && !g.2.2.2.2.2.1) = false := c31
      refine lv_iload_n hx hb dX10_takesNumber_36 rfl (lv_at hl 2 rfl) ?_
      refine endI (r := numP z z1 g) (by unfold numP; rw [c31]; rfl) ?_
      have hE : (PARW T b y (takesP (y 7) L ((decide (g.2.2.1 = 2) && rg g.2.2.2.1 z z1)) g) : va_W) = (PARW T b y (numS (y 7) L z z1 g)) := by rfl
      exact hret _ _ _ _ dX10_takesNumber_37 (by rw [← hE]; exact hP) (by rw [← hE]; exact hD) hS
    ·
      have c31 := bI_n0.mp c31
      have c31 : ((decide (g.2.2.1 = 2) && rg g.2.2.2.1 z z1) && !g.2.2.2.2.2.1) = true := c31
      refine lv_iload_n hx hb dX10_takesNumber_34 rfl (lv_at hl 0 rfl) ?_
      refine endI (r := numP z z1 g) (by unfold numP; rw [c31]; rfl) ?_
      have hE : (PARW T b y (takesP (y 7) L ((decide (g.2.2.1 = 2) && rg g.2.2.2.1 z z1)) g) : va_W) = (PARW T b y (numS (y 7) L z z1 g)) := by rfl
      exact hret _ _ _ _ dX10_takesNumber_35 (by rw [← hE]; exact hP) (by rw [← hE]; exact hD) hS
  refine lv_aload_n hx hb dX10_takesNumber_6 rfl (lv_at hl 1 rfl) ?_
  refine va_get (D := D) (ci := 10) (v := .int (g.2.2.1)) (C := RX10) (T := TX10) (N := 19) hx hb hts i10 hown hK hP 0 rfl rfl 13 (by decide) w2 (fun _ h9 => h9) rfl dX10_takesNumber_7 ?_
  refine lv_iconst (v := 2) hx hb dX10_takesNumber_10 (by decide) ?_
  refine lv_icmp_ne (tgt := 27) hx hb dX10_takesNumber_11 (by decide) (fun c11 => ?_) (fun c11 => ?_)
  ·
    refine lv_iconst (v := 0) hx hb dX10_takesNumber_27 (by decide) ?_
    refine endI (r := bI (decide (g.2.2.1 = 2) && rg g.2.2.2.1 z z1)) (by simp [bI, c11]) ?_
    exact J6
  ·
    refine lv_iload_n hx hb dX10_takesNumber_14 rfl (lv_at hl 0 rfl) ?_
    refine lv_iload_n hx hb dX10_takesNumber_15 rfl (lv_at hl 2 rfl) ?_
    refine lv_iload_n hx hb dX10_takesNumber_16 rfl (lv_at hl 3 rfl) ?_
    refine rdT (As := [.int (g.2.2.2.1), .int (z), .int (z1)]) (rest := [.ref (b 0)]) ⟨hx, hb, hml, hown, hts⟩ (c_X10_in l D T g.2.2.2.1 z z1 ) (va_cwS 3 hts gX10_takesNumber_X10_in rfl rfl rfl (by decide +kernel) ⟨Nat.le_of_ble_eq_true rfl, Nat.le_of_ble_eq_true rfl⟩) rfl hl.1 rfl (Nat.le_of_ble_eq_true rfl) ⟨Nat.zero_le _, Nat.zero_le _⟩ dX10_takesNumber_17 ?_
    refine lv_if_eq (tgt := 27) hx hb dX10_takesNumber_20 (by decide) (fun c20 => ?_) (fun c20 => ?_)
    ·
      have c20 := bI_0.mp c20
      refine lv_iconst (v := 0) hx hb dX10_takesNumber_27 (by decide) ?_
      refine endI (r := bI (decide (g.2.2.1 = 2) && rg g.2.2.2.1 z z1)) (by simp [bI, c11, c20]) ?_
      exact J6
    ·
      have c20 := bI_n0.mp c20
      refine lv_iconst (v := 1) hx hb dX10_takesNumber_23 (by decide) ?_
      refine lv_goto (tgt := 28) hx hb dX10_takesNumber_24 (by decide) ?_
      refine endI (r := bI (decide (g.2.2.1 = 2) && rg g.2.2.2.1 z z1)) (by simp [bI, c11, c20]) ?_
      exact J6

set_option maxHeartbeats 4000000 in
set_option maxRecDepth 100000 in
theorem c_X10_sortHere (l : Launch) (D : va_G) (T : Nat → ClassId) (b : Nat → Nat) (y : Nat → Nat → Int32) (g : PSt) : Met l yX10_sortHere wsX10_sortHere ({ frames := 1, cells := 0, slots := 0, locals := 22 } : Room) (va_Pc [.ref (b 0)] (PR D T (PARW T b y g))) (QcRead (sortP g)) 0 0 (fun _ => False) := by
  refine metR (cc := cX10_sortHere) (maxL := 1) (ty := .int) (by decide) rfl (by rfl) (Nat.le_of_ble_eq_true rfl) ?_
  intro p e s m args below meth c Q ls hx hb hml hown hts hP hK hl hret
  have hown : s.vm.findClass RX10 = some m.cls := hown
  have hl : lv_has ls 1 [(0, .ref (b 0))] := hl
  have w1 := hts (Cond.constantLong RX10 215 (3957503)) (List.mem_of_getElem? (i := 1) rfl)
  have w2 := hts (Cond.constantLong RX10 221 (3967636)) (List.mem_of_getElem? (i := 2) rfl)
  have w3 := hts (Cond.constantLong RX10 223 (400334)) (List.mem_of_getElem? (i := 3) rfl)
  have w4 := hts (Cond.constantLong RX10 225 (118913)) (List.mem_of_getElem? (i := 4) rfl)
  refine lv_aload_n hx hb dX10_sortHere_0 rfl (lv_at hl 0 rfl) ?_
  refine lv_ldc2 (v := 3957503) hx hb hown w1 dX10_sortHere_1 ?_
  refine rdV (As := [.long (3957503)]) (rest := []) ⟨hx, hb, hml, hown, hts⟩ (c_X10_isWord l D T b y g 3957503 ) (cwV 1 hts gX10_sortHere_X10_isWord rfl rfl rfl (by decide +kernel) ⟨Nat.le_of_ble_eq_true rfl, Nat.le_of_ble_eq_true rfl⟩) hK hP 0 rfl rfl rfl hl.1 rfl (Nat.le_of_ble_eq_true rfl) ⟨Nat.zero_le _, Nat.zero_le _⟩ dX10_sortHere_4 ?_
  refine lv_if_eq (tgt := 12) hx hb dX10_sortHere_7 (by decide) (fun c7 => ?_) (fun c7 => ?_)
  ·
    have c7 := bI_0.mp c7
    refine lv_aload_n hx hb dX10_sortHere_12 rfl (lv_at hl 0 rfl) ?_
    refine lv_ldc2 (v := 3967636) hx hb hown w2 dX10_sortHere_13 ?_
    refine rdV (As := [.long (3967636)]) (rest := []) ⟨hx, hb, hml, hown, hts⟩ (c_X10_isWord l D T b y g 3967636 ) (cwV 1 hts gX10_sortHere_X10_isWord rfl rfl rfl (by decide +kernel) ⟨Nat.le_of_ble_eq_true rfl, Nat.le_of_ble_eq_true rfl⟩) hK hP 0 rfl rfl rfl hl.1 rfl (Nat.le_of_ble_eq_true rfl) ⟨Nat.zero_le _, Nat.zero_le _⟩ dX10_sortHere_16 ?_
    refine lv_if_eq (tgt := 24) hx hb dX10_sortHere_19 (by decide) (fun c19 => ?_) (fun c19 => ?_)
    ·
      have c19 := bI_0.mp c19
      refine lv_aload_n hx hb dX10_sortHere_24 rfl (lv_at hl 0 rfl) ?_
      refine lv_ldc2 (v := 400334) hx hb hown w3 dX10_sortHere_25 ?_
      refine rdV (As := [.long (400334)]) (rest := []) ⟨hx, hb, hml, hown, hts⟩ (c_X10_isWord l D T b y g 400334 ) (cwV 1 hts gX10_sortHere_X10_isWord rfl rfl rfl (by decide +kernel) ⟨Nat.le_of_ble_eq_true rfl, Nat.le_of_ble_eq_true rfl⟩) hK hP 0 rfl rfl rfl hl.1 rfl (Nat.le_of_ble_eq_true rfl) ⟨Nat.zero_le _, Nat.zero_le _⟩ dX10_sortHere_28 ?_
      refine lv_if_eq (tgt := 36) hx hb dX10_sortHere_31 (by decide) (fun c31 => ?_) (fun c31 => ?_)
      ·
        have c31 := bI_0.mp c31
        refine lv_aload_n hx hb dX10_sortHere_36 rfl (lv_at hl 0 rfl) ?_
        refine lv_ldc2 (v := 118913) hx hb hown w4 dX10_sortHere_37 ?_
        refine rdV (As := [.long (118913)]) (rest := []) ⟨hx, hb, hml, hown, hts⟩ (c_X10_isWord l D T b y g 118913 ) (cwV 1 hts gX10_sortHere_X10_isWord rfl rfl rfl (by decide +kernel) ⟨Nat.le_of_ble_eq_true rfl, Nat.le_of_ble_eq_true rfl⟩) hK hP 0 rfl rfl rfl hl.1 rfl (Nat.le_of_ble_eq_true rfl) ⟨Nat.zero_le _, Nat.zero_le _⟩ dX10_sortHere_40 ?_
        refine lv_if_eq (tgt := 48) hx hb dX10_sortHere_43 (by decide) (fun c43 => ?_) (fun c43 => ?_)
        ·
          have c43 := bI_0.mp c43
          refine lv_iconst (v := -1) hx hb dX10_sortHere_48 (by decide) ?_
          refine endI (r := sortP g) (by simp [sortP, c7, c19, c31, c43]) ?_
          exact hret ls _ dX10_sortHere_49
        ·
          have c43 := bI_n0.mp c43
          refine lv_iconst (v := 3) hx hb dX10_sortHere_46 (by decide) ?_
          refine endI (r := sortP g) (by simp [sortP, c7, c19, c31, c43]) ?_
          exact hret ls _ dX10_sortHere_47
      ·
        have c31 := bI_n0.mp c31
        refine lv_iconst (v := 2) hx hb dX10_sortHere_34 (by decide) ?_
        refine endI (r := sortP g) (by simp [sortP, c7, c19, c31]) ?_
        exact hret ls _ dX10_sortHere_35
    ·
      have c19 := bI_n0.mp c19
      refine lv_iconst (v := 1) hx hb dX10_sortHere_22 (by decide) ?_
      refine endI (r := sortP g) (by simp [sortP, c7, c19]) ?_
      exact hret ls _ dX10_sortHere_23
  ·
    have c7 := bI_n0.mp c7
    refine lv_iconst (v := 0) hx hb dX10_sortHere_10 (by decide) ?_
    refine endI (r := sortP g) (by simp [sortP, c7]) ?_
    exact hret ls _ dX10_sortHere_11
