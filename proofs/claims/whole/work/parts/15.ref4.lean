set_option maxHeartbeats 4000000 in
set_option maxRecDepth 100000 in
theorem c_X10_isJustified (l : Launch) (D : va_G) (T : Nat → ClassId) (b : Nat → Nat) (y : Nat → Nat → Int32) (w : Int64) (z : Int32) (z1 : Int32) (N : Nat) (K : Nat) (C : Nat) (nt : Nat) (hRI : RI (y 1) N K C nt) (sz : Nat) : Met l yX10_isJustified wsX10_isJustified ({ frames := 4, cells := 0, slots := 0, locals := 84 } : Room) (va_Pc [.ref (b 0), .int (z), .int (z1)] (PS D T (REF T b y w) sz)) (va_Qi (fun r9 (_ : Unit) => r9 = (bI (rg z 0 3 && rg z1 0 2000 && justB z.toNatClampNeg (y 1 1) (y 1 2) (y 1 3) z1.toNatClampNeg (y 1 (9 + z1.toNatClampNeg % C))))) (fun _ t => QS D T (va_A (REF T b y w) sz) (REF T b (yS y 3 (if rg z 0 3 && rg z1 0 2000 then 0 else 1)) w) t) (va_A (REF T b y w) sz)) 0 0 (va_A (REF T b y w) sz) := by
  refine metSi (cc := cX10_isJustified) (maxL := 3) (ty := .boolean) (by decide) rfl (by exact bI_nb _) (Nat.le_of_ble_eq_true rfl) ?_
  intro p e s m args below meth c Q ls A hx hb hml hown hts hP hK hD hA hS hl hret
  have hown : s.vm.findClass RX10 = some m.cls := hown
  have hl : lv_has ls 3 [(0, .ref (b 0)), (1, .int (z)), (2, .int (z1))] := hl
  have i10 : ∀ w ∈ wsX100, w ∈ wsX10_isJustified := by decide +kernel
  have w1 := hts (Cond.fieldLink RX10 51 "MoonComplaintWindowModel" "thrown" "I") (List.mem_of_getElem? (i := 1) rfl)
  have w2 := hts (Cond.fieldLink RX10 7 "MoonComplaintWindowModel" "now" "[I") (List.mem_of_getElem? (i := 2) rfl)
  obtain ⟨hN, hN2, hKn, hK2, hC, hC1, hC2, hn, hnt, hSo, hSK⟩ := id hRI
  refine lv_aload_n hx hb dX10_isJustified_0 rfl (lv_at hl 0 rfl) ?_
  refine lv_iconst (v := 0) hx hb dX10_isJustified_1 (by decide) ?_
  refine va_put (D := D) (ci := 10) (v := .int (0)) (ty := .int) (C := RX10) (T := TX10) (N := 19) hx hb hts i10 tyX10 tyX10_ok nmX10 hown hK hP hD hS 0 rfl rfl 10 (by decide) w1 (fun _ h9 => h9) rfl (by decide +kernel) rfl rfl (Nat.le_of_ble_eq_true rfl) dX10_isJustified_2 (fun H locs hP hD hS => ?_)
  have hP : va_P D vwCl (REF T b (yS y 3 0) w) H := hP
  have hD : va_D A (REF T b (yS y 3 0) w) := hD
  refine lv_iload_n hx hb dX10_isJustified_5 rfl (lv_at hl 1 rfl) ?_
  refine rdT (As := [.int (z)]) (rest := []) ⟨hx, hb, hml, hown, hts⟩ (c_X10_isSort l D T z ) (va_cwS 1 hts gX10_isJustified_X10_isSort rfl rfl rfl (by decide +kernel) ⟨Nat.le_of_ble_eq_true rfl, Nat.le_of_ble_eq_true rfl⟩) rfl hl.1 rfl (Nat.le_of_ble_eq_true rfl) ⟨Nat.zero_le _, Nat.zero_le _⟩ dX10_isJustified_6 ?_
  refine lv_if_eq (tgt := 29) hx hb dX10_isJustified_9 (by decide) (fun c9 => ?_) (fun c9 => ?_)
  ·
    have c9 := bI_0.mp c9
    refine lv_aload_n hx hb dX10_isJustified_29 rfl (lv_at hl 0 rfl) ?_
    refine lv_iconst (v := 1) hx hb dX10_isJustified_30 (by decide) ?_
    refine wrVi (As := [.int (1)]) (rest := []) ⟨hx, hb, hml, hown, hts⟩ (c_X10_isFailed l D T b (yS y 3 0) w 1 _) (cwV 1 hts gX10_isJustified_X10_isFailed rfl rfl rfl (by decide +kernel) ⟨Nat.le_of_ble_eq_true rfl, Nat.le_of_ble_eq_true rfl⟩) (Foc.rfl _ _) hK hP hD hS hA 0 rfl rfl rfl hl.1 rfl (Nat.le_of_ble_eq_true rfl) ⟨Nat.zero_le _, Nat.zero_le _⟩ dX10_isJustified_31 (fun H locs hP hD hS => ?_)
    have hP : va_P D vwCl (REF T b (yS (yS y 3 0) 3 1) w) H := hP
    have hD : va_D A (REF T b (yS (yS y 3 0) 3 1) w) := hD
    refine endI (r := bI (rg z 0 3 && rg z1 0 2000 && justB z.toNatClampNeg (y 1 1) (y 1 2) (y 1 3) z1.toNatClampNeg (y 1 (9 + z1.toNatClampNeg % C)))) (by first | rfl | (simp [yS_same, c9]; done) | (simp [yS_same, yS_row, c9, hqc, hkc]; done)) ?_
    have hE : (yS (yS y 3 0) 3 1) = (yS y 3 (if rg z 0 3 && rg z1 0 2000 then 0 else 1)) := by first | rfl | (simp [yS_same, c9]; done) | ((first | have c9x := Int32.not_lt.mp c9 | have c9x := Int32.not_le.mp c9 | have c9x := Int32.not_lt.mpr c9 | have c9x := Int32.not_le.mpr c9 | have c9x := c9); simp [yS_same, c9, c9x]; done)
    exact hret _ _ _ _ dX10_isJustified_34 (by rw [← hE]; exact hP) (by rw [← hE]; exact hD) hS
  ·
    have c9 := bI_n0.mp c9
    obtain ⟨q, hq, hqz, hqc⟩ := rg_sort c9
    rw [hqz] at hl
    have hl : lv_has ls 3 [(0, .ref (b 0)), (1, .int (nI q)), (2, .int (z1))] := hl
    refine lv_iload_n hx hb dX10_isJustified_12 rfl (lv_at hl 2 rfl) ?_
    refine rdT (As := [.int (z1)]) (rest := []) ⟨hx, hb, hml, hown, hts⟩ (c_X10_isNight l D T z1 ) (va_cwS 1 hts gX10_isJustified_X10_isNight rfl rfl rfl (by decide +kernel) ⟨Nat.le_of_ble_eq_true rfl, Nat.le_of_ble_eq_true rfl⟩) rfl hl.1 rfl (Nat.le_of_ble_eq_true rfl) ⟨Nat.zero_le _, Nat.zero_le _⟩ dX10_isJustified_13 ?_
    refine lv_if_eq (tgt := 29) hx hb dX10_isJustified_16 (by decide) (fun c16 => ?_) (fun c16 => ?_)
    ·
      have c16 := bI_0.mp c16
      refine lv_aload_n hx hb dX10_isJustified_29 rfl (lv_at hl 0 rfl) ?_
      refine lv_iconst (v := 1) hx hb dX10_isJustified_30 (by decide) ?_
      refine wrVi (As := [.int (1)]) (rest := []) ⟨hx, hb, hml, hown, hts⟩ (c_X10_isFailed l D T b (yS y 3 0) w 1 _) (cwV 1 hts gX10_isJustified_X10_isFailed rfl rfl rfl (by decide +kernel) ⟨Nat.le_of_ble_eq_true rfl, Nat.le_of_ble_eq_true rfl⟩) (Foc.rfl _ _) hK hP hD hS hA 0 rfl rfl rfl hl.1 rfl (Nat.le_of_ble_eq_true rfl) ⟨Nat.zero_le _, Nat.zero_le _⟩ dX10_isJustified_31 (fun H locs hP hD hS => ?_)
      have hP : va_P D vwCl (REF T b (yS (yS y 3 0) 3 1) w) H := hP
      have hD : va_D A (REF T b (yS (yS y 3 0) 3 1) w) := hD
      refine endI (r := bI (rg z 0 3 && rg z1 0 2000 && justB z.toNatClampNeg (y 1 1) (y 1 2) (y 1 3) z1.toNatClampNeg (y 1 (9 + z1.toNatClampNeg % C)))) (by first | rfl | (simp [yS_same, c9, c16]; done) | (simp [yS_same, yS_row, c9, c16, hqc, hkc]; done)) ?_
      have hE : (yS (yS y 3 0) 3 1) = (yS y 3 (if rg z 0 3 && rg z1 0 2000 then 0 else 1)) := by first | rfl | (simp [yS_same, c9, c16]; done) | ((first | have c9x := Int32.not_lt.mp c9 | have c9x := Int32.not_le.mp c9 | have c9x := Int32.not_lt.mpr c9 | have c9x := Int32.not_le.mpr c9 | have c9x := c9); (first | have c16x := Int32.not_lt.mp c16 | have c16x := Int32.not_le.mp c16 | have c16x := Int32.not_lt.mpr c16 | have c16x := Int32.not_le.mpr c16 | have c16x := c16); simp [yS_same, c9, c16, c9x, c16x]; done)
      exact hret _ _ _ _ dX10_isJustified_34 (by rw [← hE]; exact hP) (by rw [← hE]; exact hD) hS
    ·
      have c16 := bI_n0.mp c16
      obtain ⟨k, hk, hkz, hkc⟩ := rg_nat (n := 2000) (by decide) c16
      rw [hkz] at hl
      have hl : lv_has ls 3 [(0, .ref (b 0)), (1, .int (nI q)), (2, .int (nI k))] := hl
      refine lv_aload_n hx hb dX10_isJustified_19 rfl (lv_at hl 0 rfl) ?_
      refine va_get (D := D) (ci := 10) (v := .ref (b 1)) (C := RX10) (T := TX10) (N := 19) hx hb hts i10 hown hK hP 0 rfl rfl 0 (by decide) w2 (fun _ h9 => h9) rfl dX10_isJustified_20 ?_
      refine lv_iload_n hx hb dX10_isJustified_23 rfl (lv_at hl 1 rfl) ?_
      refine lv_iload_n hx hb dX10_isJustified_24 rfl (lv_at hl 2 rfl) ?_
      refine rdS (As := [.ref (b 1), .int (nI q), .int (nI k)]) (rest := []) ⟨hx, hb, hml, hown, hts⟩ (c_X10_isJust l D T (b 1) (y 1) q k C hC hC1 hC2 (by omega) (by first | omega | assumption)) (va_cwS 3 hts gX10_isJustified_X10_isJust rfl rfl rfl (by decide +kernel) ⟨Nat.le_of_ble_eq_true rfl, Nat.le_of_ble_eq_true rfl⟩) hK (hP.sub [1] rfl) rfl hl.1 rfl (Nat.le_of_ble_eq_true rfl) ⟨Nat.zero_le _, Nat.zero_le _⟩ dX10_isJustified_25 ?_
      refine endI (r := bI (rg z 0 3 && rg z1 0 2000 && justB z.toNatClampNeg (y 1 1) (y 1 2) (y 1 3) z1.toNatClampNeg (y 1 (9 + z1.toNatClampNeg % C)))) (by first | rfl | (simp [yS_same, c9, c16]; done) | (simp [yS_same, yS_row, c9, c16, hqc, hkc]; done)) ?_
      have hE : (yS y 3 0) = (yS y 3 (if rg z 0 3 && rg z1 0 2000 then 0 else 1)) := by first | rfl | (simp [yS_same, c9, c16]; done) | ((first | have c9x := Int32.not_lt.mp c9 | have c9x := Int32.not_le.mp c9 | have c9x := Int32.not_lt.mpr c9 | have c9x := Int32.not_le.mpr c9 | have c9x := c9); (first | have c16x := Int32.not_lt.mp c16 | have c16x := Int32.not_le.mp c16 | have c16x := Int32.not_lt.mpr c16 | have c16x := Int32.not_le.mpr c16 | have c16x := c16); simp [yS_same, c9, c16, c9x, c16x]; done)
      exact hret _ _ _ _ dX10_isJustified_28 (by rw [← hE]; exact hP) (by rw [← hE]; exact hD) hS

set_option maxHeartbeats 4000000 in
set_option maxRecDepth 100000 in
theorem c_X10_nextJustified (l : Launch) (D : va_G) (T : Nat → ClassId) (b : Nat → Nat) (y : Nat → Nat → Int32) (w : Int64) (z : Int32) (N : Nat) (K : Nat) (C : Nat) (nt : Nat) (hRI : RI (y 1) N K C nt) (sz : Nat) : Met l yX10_nextJustified wsX10_nextJustified ({ frames := 4, cells := 0, slots := 0, locals := 84 } : Room) (va_Pc [.ref (b 0), .int (z)] (PS D T (REF T b y w) sz)) (va_Qi (fun r9 (_ : Unit) => r9 = (if rg z 0 3 then (nextR (y 1) C nt z.toNatClampNeg).elim 0 nI else 0)) (fun _ t => QS D T (va_A (REF T b y w) sz) (REF T b (yS y 3 (if rg z 0 3 then (if (nextR (y 1) C nt z.toNatClampNeg).isSome then 0 else 2) else 1)) w) t) (va_A (REF T b y w) sz)) 0 0 (va_A (REF T b y w) sz) := by
  refine metSi (cc := cX10_nextJustified) (maxL := 3) (ty := .int) (by decide) rfl (by rfl) (Nat.le_of_ble_eq_true rfl) ?_
  intro p e s m args below meth c Q ls A hx hb hml hown hts hP hK hD hA hS hl hret
  have hown : s.vm.findClass RX10 = some m.cls := hown
  have hl : lv_has ls 3 [(0, .ref (b 0)), (1, .int (z))] := hl
  have i10 : ∀ w ∈ wsX100, w ∈ wsX10_nextJustified := by decide +kernel
  have w1 := hts (Cond.fieldLink RX10 51 "MoonComplaintWindowModel" "thrown" "I") (List.mem_of_getElem? (i := 1) rfl)
  have w2 := hts (Cond.fieldLink RX10 7 "MoonComplaintWindowModel" "now" "[I") (List.mem_of_getElem? (i := 2) rfl)
  obtain ⟨hN, hN2, hKn, hK2, hC, hC1, hC2, hn, hnt, hSo, hSK⟩ := id hRI
  refine lv_aload_n hx hb dX10_nextJustified_0 rfl (lv_at hl 0 rfl) ?_
  refine lv_iconst (v := 0) hx hb dX10_nextJustified_1 (by decide) ?_
  refine va_put (D := D) (ci := 10) (v := .int (0)) (ty := .int) (C := RX10) (T := TX10) (N := 19) hx hb hts i10 tyX10 tyX10_ok nmX10 hown hK hP hD hS 0 rfl rfl 10 (by decide) w1 (fun _ h9 => h9) rfl (by decide +kernel) rfl rfl (Nat.le_of_ble_eq_true rfl) dX10_nextJustified_2 (fun H locs hP hD hS => ?_)
  have hP : va_P D vwCl (REF T b (yS y 3 0) w) H := hP
  have hD : va_D A (REF T b (yS y 3 0) w) := hD
  refine lv_iload_n hx hb dX10_nextJustified_5 rfl (lv_at hl 1 rfl) ?_
  refine rdT (As := [.int (z)]) (rest := []) ⟨hx, hb, hml, hown, hts⟩ (c_X10_isSort l D T z ) (va_cwS 1 hts gX10_nextJustified_X10_isSort rfl rfl rfl (by decide +kernel) ⟨Nat.le_of_ble_eq_true rfl, Nat.le_of_ble_eq_true rfl⟩) rfl hl.1 rfl (Nat.le_of_ble_eq_true rfl) ⟨Nat.zero_le _, Nat.zero_le _⟩ dX10_nextJustified_6 ?_
  refine lv_if_ne (tgt := 18) hx hb dX10_nextJustified_9 (by decide) (fun c9 => ?_) (fun c9 => ?_)
  ·
    have c9 := bI_n0.mp c9
    obtain ⟨q, hq, hqz, hqc⟩ := rg_sort c9
    rw [hqz] at hl
    have hl : lv_has ls 3 [(0, .ref (b 0)), (1, .int (nI q))] := hl
    refine lv_aload_n hx hb dX10_nextJustified_18 rfl (lv_at hl 0 rfl) ?_
    refine va_get (D := D) (ci := 10) (v := .ref (b 1)) (C := RX10) (T := TX10) (N := 19) hx hb hts i10 hown hK hP 0 rfl rfl 0 (by decide) w2 (fun _ h9 => h9) rfl dX10_nextJustified_19 ?_
    refine lv_iconst (v := 0) hx hb dX10_nextJustified_22 (by decide) ?_
    refine aldI hx hb hK hP 1 0 rfl rfl (0) rfl (by omega) (by decide) dX10_nextJustified_23 ?_
    refine endI (r := nI nt) (hn) ?_
    refine lv_istore_n (lv' := [(2, .int (nI nt)), (0, .ref (b 0)), (1, .int (nI q))]) hx hb dX10_nextJustified_24 rfl hl (by decide) rfl (fun ls hl => ?_)
    have L25 : ∀ (n9 : Nat) (k9 : Nat), (nt + 280 - k9) < n9 → (k9 ≤ nt + 280) → (ffind (fun k => justB q (y 1 1) (y 1 2) (y 1 3) k (y 1 (9 + k % C))) (nt + 280 - k9) k9 = nextR (y 1) C nt q) → (nt ≤ k9) → ∀ (H : Heap) (locs : List Loc) (ls : Array Slot), va_P D vwCl (REF T b (yS y 3 0) w) H → va_D A (REF T b (yS y 3 0) w) → va_S A s.heap H locs → lv_has ls 3 [(2, .int (nI k9)), (0, .ref (b 0)), (1, .int (nI q))] → W p l e ({ frames := 4, cells := 0, slots := 0, locals := 84 } : Room) s m args below meth c H locs 0 0 Q (F0 m 25 ls []) := by
      intro n9
      induction n9 with
      | zero => intro k9 hm9; exact absurd hm9 (Nat.not_lt_zero _)
      | succ n9 ih =>
        intro k9 hm9 hk9 hR hk0 H locs ls hP hD hS hl
        refine lv_iload_n hx hb dX10_nextJustified_25 rfl (lv_at hl 0 rfl) ?_
        refine lv_aload_n hx hb dX10_nextJustified_26 rfl (lv_at hl 1 rfl) ?_
        refine va_get (D := D) (ci := 10) (v := .ref (b 1)) (C := RX10) (T := TX10) (N := 19) hx hb hts i10 hown hK hP 0 rfl rfl 0 (by decide) w2 (fun _ h9 => h9) rfl dX10_nextJustified_27 ?_
        refine lv_iconst (v := 0) hx hb dX10_nextJustified_30 (by decide) ?_
        refine aldI hx hb hK hP 1 0 rfl rfl (0) rfl (by omega) (by decide) dX10_nextJustified_31 ?_
        refine endI (r := nI nt) (hn) ?_
        refine lv_sipush (v := 280) hx hb dX10_nextJustified_32 (by decide) ?_
        refine lv_iadd hx hb dX10_nextJustified_35 ?_
        refine endI (r := nI (nt + 280)) (nI_add _ _) ?_
        refine lv_icmp_ge (tgt := 59) hx hb dX10_nextJustified_36 (by decide) (fun c36 => ?_) (fun c36 => ?_)
        ·
          have c36 : (nt + 280) ≤ k9 := (nI_leI (a := (nt + 280)) (b := k9) (by omega) (by omega)).mp c36
          refine lv_aload_n hx hb dX10_nextJustified_59 rfl (lv_at hl 1 rfl) ?_
          refine lv_iconst (v := 2) hx hb dX10_nextJustified_60 (by decide) ?_
          refine wrVi (As := [.int (2)]) (rest := []) ⟨hx, hb, hml, hown, hts⟩ (c_X10_fails l D T b (yS y 3 0) w 2 _) (cwV 1 hts gX10_nextJustified_X10_fails rfl rfl rfl (by decide +kernel) ⟨Nat.le_of_ble_eq_true rfl, Nat.le_of_ble_eq_true rfl⟩) (Foc.rfl _ _) hK hP hD hS hA 0 rfl rfl rfl hl.1 rfl (Nat.le_of_ble_eq_true rfl) ⟨Nat.zero_le _, Nat.zero_le _⟩ dX10_nextJustified_61 (fun H locs hP hD hS => ?_)
          have hP : va_P D vwCl (REF T b (yS (yS y 3 0) 3 2) w) H := hP
          have hD : va_D A (REF T b (yS (yS y 3 0) 3 2) w) := hD
          refine endI (r := if rg z 0 3 then (nextR (y 1) C nt z.toNatClampNeg).elim 0 nI else 0) (by first | (simp [c9, c36]; done) | (rw [if_pos c9, hqc]; rw [ffind_done (by omega)] at hR; rw [← hR]; rfl) | (rw [if_pos c9, hqc]; rw [ffind_step (by omega), if_pos c48] at hR; rw [← hR]; rfl)) ?_
          have hE : (yS (yS y 3 0) 3 2) = (yS y 3 (if rg z 0 3 then (if (nextR (y 1) C nt z.toNatClampNeg).isSome then 0 else 2) else 1)) := by first | (simp [yS_same, c9, c36]; done) | (rw [ffind_done (by omega)] at hR; rw [yS_same, if_pos c9, hqc, ← hR]; rfl) | (rw [ffind_step (by omega), if_pos c48] at hR; rw [if_pos c9, hqc, ← hR]; rfl)
          exact hret _ _ _ _ dX10_nextJustified_64 (by rw [← hE]; exact hP) (by rw [← hE]; exact hD) hS
        ·
          have c36 : ¬ (nt + 280) ≤ k9 := fun h9 => c36 ((nI_leI (a := (nt + 280)) (b := k9) (by omega) (by omega)).mpr h9)
          refine lv_aload_n hx hb dX10_nextJustified_39 rfl (lv_at hl 1 rfl) ?_
          refine va_get (D := D) (ci := 10) (v := .ref (b 1)) (C := RX10) (T := TX10) (N := 19) hx hb hts i10 hown hK hP 0 rfl rfl 0 (by decide) w2 (fun _ h9 => h9) rfl dX10_nextJustified_40 ?_
          refine lv_iload_n hx hb dX10_nextJustified_43 rfl (lv_at hl 2 rfl) ?_
          refine lv_iload_n hx hb dX10_nextJustified_44 rfl (lv_at hl 0 rfl) ?_
          refine rdS (As := [.ref (b 1), .int (nI q), .int (nI k9)]) (rest := []) ⟨hx, hb, hml, hown, hts⟩ (c_X10_isJust l D T (b 1) (y 1) q k9 C hC hC1 hC2 (by omega) (by first | omega | assumption)) (va_cwS 3 hts gX10_nextJustified_X10_isJust rfl rfl rfl (by decide +kernel) ⟨Nat.le_of_ble_eq_true rfl, Nat.le_of_ble_eq_true rfl⟩) hK (hP.sub [1] rfl) rfl hl.1 rfl (Nat.le_of_ble_eq_true rfl) ⟨Nat.zero_le _, Nat.zero_le _⟩ dX10_nextJustified_45 ?_
          refine lv_if_eq (tgt := 53) hx hb dX10_nextJustified_48 (by decide) (fun c48 => ?_) (fun c48 => ?_)
          ·
            have c48 := bI_0.mp c48
            refine lv_iinc (v := nI (k9 + 1)) (lv' := [(2, .int (nI (k9 + 1))), (0, .ref (b 0)), (1, .int (nI q))]) hx hb dX10_nextJustified_53 hl (k := 0) rfl (nI_1 _) (by decide) rfl (fun ls hl => ?_)
            refine lv_goto (tgt := 25) hx hb dX10_nextJustified_56 (by decide) ?_
            exact ih (k9 + 1) (by omega) (by omega) (by rw [ffind_step (by omega)] at hR; simpa [c9, c36, c48] using hR) (by first | assumption | omega) _ _ _ hP hD hS (lv_sub hl [0, 1, 2] rfl)
          ·
            have c48 := bI_n0.mp c48
            refine lv_iload_n hx hb dX10_nextJustified_51 rfl (lv_at hl 0 rfl) ?_
            refine endI (r := if rg z 0 3 then (nextR (y 1) C nt z.toNatClampNeg).elim 0 nI else 0) (by first | (simp [c9, c36, c48]; done) | (rw [if_pos c9, hqc]; rw [ffind_done (by omega)] at hR; rw [← hR]; rfl) | (rw [if_pos c9, hqc]; rw [ffind_step (by omega), if_pos c48] at hR; rw [← hR]; rfl)) ?_
            have hE : (yS y 3 0) = (yS y 3 (if rg z 0 3 then (if (nextR (y 1) C nt z.toNatClampNeg).isSome then 0 else 2) else 1)) := by first | (simp [yS_same, c9, c36, c48]; done) | (rw [ffind_done (by omega)] at hR; rw [yS_same, if_pos c9, hqc, ← hR]; rfl) | (rw [ffind_step (by omega), if_pos c48] at hR; rw [if_pos c9, hqc, ← hR]; rfl)
            exact hret _ _ _ _ dX10_nextJustified_52 (by rw [← hE]; exact hP) (by rw [← hE]; exact hD) hS
    exact L25 _ nt (Nat.lt_succ_self _) (by omega) (by first | rfl | (simp; done)) (by first | assumption | omega | (intros; contradiction)) _ _ _ hP hD hS (lv_sub hl [0, 1, 2] rfl)
  ·
    have c9 := bI_0.mp c9
    refine lv_aload_n hx hb dX10_nextJustified_12 rfl (lv_at hl 0 rfl) ?_
    refine lv_iconst (v := 1) hx hb dX10_nextJustified_13 (by decide) ?_
    refine wrVi (As := [.int (1)]) (rest := []) ⟨hx, hb, hml, hown, hts⟩ (c_X10_fails l D T b (yS y 3 0) w 1 _) (cwV 1 hts gX10_nextJustified_X10_fails rfl rfl rfl (by decide +kernel) ⟨Nat.le_of_ble_eq_true rfl, Nat.le_of_ble_eq_true rfl⟩) (Foc.rfl _ _) hK hP hD hS hA 0 rfl rfl rfl hl.1 rfl (Nat.le_of_ble_eq_true rfl) ⟨Nat.zero_le _, Nat.zero_le _⟩ dX10_nextJustified_14 (fun H locs hP hD hS => ?_)
    have hP : va_P D vwCl (REF T b (yS (yS y 3 0) 3 1) w) H := hP
    have hD : va_D A (REF T b (yS (yS y 3 0) 3 1) w) := hD
    refine endI (r := if rg z 0 3 then (nextR (y 1) C nt z.toNatClampNeg).elim 0 nI else 0) (by first | (simp [c9]; done) | (rw [if_pos c9, hqc]; rw [ffind_done (by omega)] at hR; rw [← hR]; rfl) | (rw [if_pos c9, hqc]; rw [ffind_step (by omega), if_pos c48] at hR; rw [← hR]; rfl)) ?_
    have hE : (yS (yS y 3 0) 3 1) = (yS y 3 (if rg z 0 3 then (if (nextR (y 1) C nt z.toNatClampNeg).isSome then 0 else 2) else 1)) := by first | (simp [yS_same, c9]; done) | (rw [ffind_done (by omega)] at hR; rw [yS_same, if_pos c9, hqc, ← hR]; rfl) | (rw [ffind_step (by omega), if_pos c48] at hR; rw [if_pos c9, hqc, ← hR]; rfl)
    exact hret _ _ _ _ dX10_nextJustified_17 (by rw [← hE]; exact hP) (by rw [← hE]; exact hD) hS

set_option maxHeartbeats 4000000 in
set_option maxRecDepth 100000 in
theorem c_X10_justifiedNights (l : Launch) (D : va_G) (T : Nat → ClassId) (b : Nat → Nat) (y : Nat → Nat → Int32) (w : Int64) (z : Int32) (N : Nat) (K : Nat) (C : Nat) (nt : Nat) (hRI : RI (y 1) N K C nt) (sz : Nat) : Met l yX10_justifiedNights wsX10_justifiedNights ({ frames := 5, cells := 0, slots := 0, locals := 107 } : Room) (va_Pc [.ref (b 0), .int (z)] (PS D T (REF T b y w) sz)) (va_Qi (fun r9 (_ : Unit) => r9 = (if rg z 0 3 then cntJ (y 1) C nt z.toNatClampNeg else 0)) (fun _ t => QS D T (va_A (REF T b y w) sz) (REF T b (yS y 3 (if rg z 0 3 then 0 else 1)) w) t) (va_A (REF T b y w) sz)) 0 0 (va_A (REF T b y w) sz) := by
  refine metSi (cc := cX10_justifiedNights) (maxL := 2) (ty := .int) (by decide) rfl (by rfl) (Nat.le_of_ble_eq_true rfl) ?_
  intro p e s m args below meth c Q ls A hx hb hml hown hts hP hK hD hA hS hl hret
  have hown : s.vm.findClass RX10 = some m.cls := hown
  have hl : lv_has ls 2 [(0, .ref (b 0)), (1, .int (z))] := hl
  have i10 : ∀ w ∈ wsX100, w ∈ wsX10_justifiedNights := by decide +kernel
  have w1 := hts (Cond.fieldLink RX10 51 "MoonComplaintWindowModel" "thrown" "I") (List.mem_of_getElem? (i := 1) rfl)
  have w2 := hts (Cond.fieldLink RX10 7 "MoonComplaintWindowModel" "now" "[I") (List.mem_of_getElem? (i := 2) rfl)
  obtain ⟨hN, hN2, hKn, hK2, hC, hC1, hC2, hn, hnt, hSo, hSK⟩ := id hRI
  refine lv_aload_n hx hb dX10_justifiedNights_0 rfl (lv_at hl 0 rfl) ?_
  refine lv_iconst (v := 0) hx hb dX10_justifiedNights_1 (by decide) ?_
  refine va_put (D := D) (ci := 10) (v := .int (0)) (ty := .int) (C := RX10) (T := TX10) (N := 19) hx hb hts i10 tyX10 tyX10_ok nmX10 hown hK hP hD hS 0 rfl rfl 10 (by decide) w1 (fun _ h9 => h9) rfl (by decide +kernel) rfl rfl (Nat.le_of_ble_eq_true rfl) dX10_justifiedNights_2 (fun H locs hP hD hS => ?_)
  have hP : va_P D vwCl (REF T b (yS y 3 0) w) H := hP
  have hD : va_D A (REF T b (yS y 3 0) w) := hD
  refine lv_iload_n hx hb dX10_justifiedNights_5 rfl (lv_at hl 1 rfl) ?_
  refine rdT (As := [.int (z)]) (rest := []) ⟨hx, hb, hml, hown, hts⟩ (c_X10_isSort l D T z ) (va_cwS 1 hts gX10_justifiedNights_X10_isSort rfl rfl rfl (by decide +kernel) ⟨Nat.le_of_ble_eq_true rfl, Nat.le_of_ble_eq_true rfl⟩) rfl hl.1 rfl (Nat.le_of_ble_eq_true rfl) ⟨Nat.zero_le _, Nat.zero_le _⟩ dX10_justifiedNights_6 ?_
  refine lv_if_eq (tgt := 21) hx hb dX10_justifiedNights_9 (by decide) (fun c9 => ?_) (fun c9 => ?_)
  ·
    have c9 := bI_0.mp c9
    refine lv_aload_n hx hb dX10_justifiedNights_21 rfl (lv_at hl 0 rfl) ?_
    refine lv_iconst (v := 1) hx hb dX10_justifiedNights_22 (by decide) ?_
    refine wrVi (As := [.int (1)]) (rest := []) ⟨hx, hb, hml, hown, hts⟩ (c_X10_fails l D T b (yS y 3 0) w 1 _) (cwV 1 hts gX10_justifiedNights_X10_fails rfl rfl rfl (by decide +kernel) ⟨Nat.le_of_ble_eq_true rfl, Nat.le_of_ble_eq_true rfl⟩) (Foc.rfl _ _) hK hP hD hS hA 0 rfl rfl rfl hl.1 rfl (Nat.le_of_ble_eq_true rfl) ⟨Nat.zero_le _, Nat.zero_le _⟩ dX10_justifiedNights_23 (fun H locs hP hD hS => ?_)
    have hP : va_P D vwCl (REF T b (yS (yS y 3 0) 3 1) w) H := hP
    have hD : va_D A (REF T b (yS (yS y 3 0) 3 1) w) := hD
    refine endI (r := if rg z 0 3 then cntJ (y 1) C nt z.toNatClampNeg else 0) (by first | (simp [c9]; done) | (rw [if_pos c9, hqc]; rfl)) ?_
    have hE : (yS (yS y 3 0) 3 1) = (yS y 3 (if rg z 0 3 then 0 else 1)) := by first | rfl | (simp [yS_same, c9]; done) | ((first | have c9x := Int32.not_lt.mp c9 | have c9x := Int32.not_le.mp c9 | have c9x := Int32.not_lt.mpr c9 | have c9x := Int32.not_le.mpr c9 | have c9x := c9); simp [yS_same, c9, c9x]; done)
    exact hret _ _ _ _ dX10_justifiedNights_26 (by rw [← hE]; exact hP) (by rw [← hE]; exact hD) hS
  ·
    have c9 := bI_n0.mp c9
    obtain ⟨q, hq, hqz, hqc⟩ := rg_sort c9
    rw [hqz] at hl
    have hl : lv_has ls 2 [(0, .ref (b 0)), (1, .int (nI q))] := hl
    refine lv_aload_n hx hb dX10_justifiedNights_12 rfl (lv_at hl 0 rfl) ?_
    refine va_get (D := D) (ci := 10) (v := .ref (b 1)) (C := RX10) (T := TX10) (N := 19) hx hb hts i10 hown hK hP 0 rfl rfl 0 (by decide) w2 (fun _ h9 => h9) rfl dX10_justifiedNights_13 ?_
    refine lv_iload_n hx hb dX10_justifiedNights_16 rfl (lv_at hl 1 rfl) ?_
    refine rdS (As := [.ref (b 1), .int (nI q)]) (rest := []) ⟨hx, hb, hml, hown, hts⟩ (c_X10_justNights l D T (b 1) (y 1) q C nt hC hC1 hC2 hn (by omega) (by first | omega | assumption)) (va_cwS 2 hts gX10_justifiedNights_X10_justNights rfl rfl rfl (by decide +kernel) ⟨Nat.le_of_ble_eq_true rfl, Nat.le_of_ble_eq_true rfl⟩) hK (hP.sub [1] rfl) rfl hl.1 rfl (Nat.le_of_ble_eq_true rfl) ⟨Nat.zero_le _, Nat.zero_le _⟩ dX10_justifiedNights_17 ?_
    refine endI (r := if rg z 0 3 then cntJ (y 1) C nt z.toNatClampNeg else 0) (by first | (simp [c9]; done) | (rw [if_pos c9, hqc]; rfl)) ?_
    have hE : (yS y 3 0) = (yS y 3 (if rg z 0 3 then 0 else 1)) := by first | rfl | (simp [yS_same, c9]; done) | ((first | have c9x := Int32.not_lt.mp c9 | have c9x := Int32.not_le.mp c9 | have c9x := Int32.not_lt.mpr c9 | have c9x := Int32.not_le.mpr c9 | have c9x := c9); simp [yS_same, c9, c9x]; done)
    exact hret _ _ _ _ dX10_justifiedNights_20 (by rw [← hE]; exact hP) (by rw [← hE]; exact hD) hS

set_option maxHeartbeats 4000000 in
set_option maxRecDepth 100000 in
theorem c_X10_likeliestSort (l : Launch) (D : va_G) (T : Nat → ClassId) (b : Nat → Nat) (y : Nat → Nat → Int32) (w : Int64) (N : Nat) (K : Nat) (C : Nat) (nt : Nat) (hRI : RI (y 1) N K C nt) (sz : Nat) : Met l yX10_likeliestSort wsX10_likeliestSort ({ frames := 5, cells := 0, slots := 0, locals := 107 } : Room) (va_Pc [.ref (b 0)] (PS D T (REF T b y w) sz)) (va_Qi (fun r9 (_ : Unit) => r9 = (nI (likeR (cntJ (y 1) C nt)))) (fun _ t => QS D T (va_A (REF T b y w) sz) (REF T b (yS y 3 0) w) t) (va_A (REF T b y w) sz)) 0 0 (va_A (REF T b y w) sz) := by
  refine metSi (cc := cX10_likeliestSort) (maxL := 3) (ty := .int) (by decide) rfl (by rfl) (Nat.le_of_ble_eq_true rfl) ?_
  intro p e s m args below meth c Q ls A hx hb hml hown hts hP hK hD hA hS hl hret
  have hown : s.vm.findClass RX10 = some m.cls := hown
  have hl : lv_has ls 3 [(0, .ref (b 0))] := hl
  have i10 : ∀ w ∈ wsX100, w ∈ wsX10_likeliestSort := by decide +kernel
  have w1 := hts (Cond.fieldLink RX10 51 "MoonComplaintWindowModel" "thrown" "I") (List.mem_of_getElem? (i := 1) rfl)
  have w2 := hts (Cond.fieldLink RX10 7 "MoonComplaintWindowModel" "now" "[I") (List.mem_of_getElem? (i := 2) rfl)
  obtain ⟨hN, hN2, hKn, hK2, hC, hC1, hC2, hn, hnt, hSo, hSK⟩ := id hRI
  refine lv_aload_n hx hb dX10_likeliestSort_0 rfl (lv_at hl 0 rfl) ?_
  refine lv_iconst (v := 0) hx hb dX10_likeliestSort_1 (by decide) ?_
  refine va_put (D := D) (ci := 10) (v := .int (0)) (ty := .int) (C := RX10) (T := TX10) (N := 19) hx hb hts i10 tyX10 tyX10_ok nmX10 hown hK hP hD hS 0 rfl rfl 10 (by decide) w1 (fun _ h9 => h9) rfl (by decide +kernel) rfl rfl (Nat.le_of_ble_eq_true rfl) dX10_likeliestSort_2 (fun H locs hP hD hS => ?_)
  have hP : va_P D vwCl (REF T b (yS y 3 0) w) H := hP
  have hD : va_D A (REF T b (yS y 3 0) w) := hD
  refine lv_iconst (v := 0) hx hb dX10_likeliestSort_5 (by decide) ?_
  refine lv_istore_n (lv' := [(1, .int (0)), (0, .ref (b 0))]) hx hb dX10_likeliestSort_6 rfl hl (by decide) rfl (fun ls hl => ?_)
  refine lv_iconst (v := 1) hx hb dX10_likeliestSort_7 (by decide) ?_
  refine lv_istore_n (lv' := [(2, .int (1)), (1, .int (0)), (0, .ref (b 0))]) hx hb dX10_likeliestSort_8 rfl hl (by decide) rfl (fun ls hl => ?_)
  have L9 : ∀ (n9 : Nat) (q : Nat) (bb : Nat), (4 - q) < n9 → (q ≤ 4) → (iter (fun q b => if cntJ (y 1) C nt b < cntJ (y 1) C nt q then q else b) (4 - q) q bb = likeR (cntJ (y 1) C nt)) → (bb < 4) → ∀ (H : Heap) (locs : List Loc) (ls : Array Slot), va_P D vwCl (REF T b (yS y 3 0) w) H → va_D A (REF T b (yS y 3 0) w) → va_S A s.heap H locs → lv_has ls 3 [(2, .int (nI q)), (1, .int (nI bb)), (0, .ref (b 0))] → W p l e ({ frames := 5, cells := 0, slots := 0, locals := 107 } : Room) s m args below meth c H locs 0 0 Q (F0 m 9 ls []) := by
    intro n9
    induction n9 with
    | zero => intro q bb hm9; exact absurd hm9 (Nat.not_lt_zero _)
    | succ n9 ih =>
      intro q bb hm9 hq9 hR hb9 H locs ls hP hD hS hl
      refine lv_iload_n hx hb dX10_likeliestSort_9 rfl (lv_at hl 0 rfl) ?_
      refine lv_iconst (v := 4) hx hb dX10_likeliestSort_10 (by decide) ?_
      refine lv_icmp_ge (tgt := 41) hx hb dX10_likeliestSort_11 (by decide) (fun c11 => ?_) (fun c11 => ?_)
      ·
        have c11 : 4 ≤ q := (nI_leI (a := 4) (b := q) (by omega) (by omega)).mp c11
        refine lv_iload_n hx hb dX10_likeliestSort_41 rfl (lv_at hl 1 rfl) ?_
        refine endI (r := nI (likeR (cntJ (y 1) C nt))) (by rw [iter_done (by omega)] at hR; rw [hR]) ?_
        exact hret _ _ _ _ dX10_likeliestSort_42 hP hD hS
      ·
        have c11 : ¬ 4 ≤ q := fun h9 => c11 ((nI_leI (a := 4) (b := q) (by omega) (by omega)).mpr h9)
        refine lv_aload_n hx hb dX10_likeliestSort_14 rfl (lv_at hl 2 rfl) ?_
        refine va_get (D := D) (ci := 10) (v := .ref (b 1)) (C := RX10) (T := TX10) (N := 19) hx hb hts i10 hown hK hP 0 rfl rfl 0 (by decide) w2 (fun _ h9 => h9) rfl dX10_likeliestSort_15 ?_
        refine lv_iload_n hx hb dX10_likeliestSort_18 rfl (lv_at hl 0 rfl) ?_
        refine rdS (As := [.ref (b 1), .int (nI q)]) (rest := []) ⟨hx, hb, hml, hown, hts⟩ (c_X10_justNights l D T (b 1) (y 1) q C nt hC hC1 hC2 hn (by omega) (by first | omega | assumption)) (va_cwS 2 hts gX10_likeliestSort_X10_justNights rfl rfl rfl (by decide +kernel) ⟨Nat.le_of_ble_eq_true rfl, Nat.le_of_ble_eq_true rfl⟩) hK (hP.sub [1] rfl) rfl hl.1 rfl (Nat.le_of_ble_eq_true rfl) ⟨Nat.zero_le _, Nat.zero_le _⟩ dX10_likeliestSort_19 ?_
        refine lv_aload_n hx hb dX10_likeliestSort_22 rfl (lv_at hl 2 rfl) ?_
        refine va_get (D := D) (ci := 10) (v := .ref (b 1)) (C := RX10) (T := TX10) (N := 19) hx hb hts i10 hown hK hP 0 rfl rfl 0 (by decide) w2 (fun _ h9 => h9) rfl dX10_likeliestSort_23 ?_
        refine lv_iload_n hx hb dX10_likeliestSort_26 rfl (lv_at hl 1 rfl) ?_
        refine rdS (As := [.ref (b 1), .int (nI bb)]) (rest := [.int (cntI (fun j => justB q ((y 1) 1) ((y 1) 2) ((y 1) 3) j ((y 1) (9 + j % C))) (nt + 28 - nt) nt 0)]) ⟨hx, hb, hml, hown, hts⟩ (c_X10_justNights l D T (b 1) (y 1) bb C nt hC hC1 hC2 hn (by omega) (by first | omega | assumption)) (va_cwS 2 hts gX10_likeliestSort_X10_justNights rfl rfl rfl (by decide +kernel) ⟨Nat.le_of_ble_eq_true rfl, Nat.le_of_ble_eq_true rfl⟩) hK (hP.sub [1] rfl) rfl hl.1 rfl (Nat.le_of_ble_eq_true rfl) ⟨Nat.zero_le _, Nat.zero_le _⟩ dX10_likeliestSort_27 ?_
        refine lv_icmp_le (tgt := 35) hx hb dX10_likeliestSort_30 (by decide) (fun c30 => ?_) (fun c30 => ?_)
        ·
          have c30 : cntJ (y 1) C nt q ≤ cntJ (y 1) C nt bb := c30
          refine lv_iinc (v := nI (q + 1)) (lv' := [(2, .int (nI (q + 1))), (1, .int (nI bb)), (0, .ref (b 0))]) hx hb dX10_likeliestSort_35 hl (k := 0) rfl (nI_1 _) (by decide) rfl (fun ls hl => ?_)
          refine lv_goto (tgt := 9) hx hb dX10_likeliestSort_38 (by decide) ?_
          exact ih (q + 1) bb (by omega) (by omega) (by rw [iter_step (by omega)] at hR; first | (rw [if_neg (Int32.not_lt.mpr c30)] at hR; exact hR) | (rw [if_pos (Int32.not_le.mp c30)] at hR; exact hR)) (by omega) _ _ _ hP hD hS (lv_sub hl [0, 1, 2] rfl)
        ·
          have c30 : ¬ cntJ (y 1) C nt q ≤ cntJ (y 1) C nt bb := c30
          refine lv_iload_n hx hb dX10_likeliestSort_33 rfl (lv_at hl 0 rfl) ?_
          refine lv_istore_n (lv' := [(1, .int (nI q)), (2, .int (nI q)), (0, .ref (b 0))]) hx hb dX10_likeliestSort_34 rfl hl (by decide) rfl (fun ls hl => ?_)
          refine lv_iinc (v := nI (q + 1)) (lv' := [(2, .int (nI (q + 1))), (1, .int (nI q)), (0, .ref (b 0))]) hx hb dX10_likeliestSort_35 hl (k := 1) rfl (nI_1 _) (by decide) rfl (fun ls hl => ?_)
          refine lv_goto (tgt := 9) hx hb dX10_likeliestSort_38 (by decide) ?_
          exact ih (q + 1) q (by omega) (by omega) (by rw [iter_step (by omega)] at hR; first | (rw [if_neg (Int32.not_lt.mpr c30)] at hR; exact hR) | (rw [if_pos (Int32.not_le.mp c30)] at hR; exact hR)) (by omega) _ _ _ hP hD hS (lv_sub hl [0, 1, 2] rfl)
  exact L9 _ 1 0 (Nat.lt_succ_self _) (by omega) (by rfl) (by omega) _ _ _ hP hD hS (lv_sub hl [0, 1, 2] rfl)

set_option maxHeartbeats 4000000 in
set_option maxRecDepth 100000 in
theorem c_X10_closedIn (l : Launch) (D : va_G) (T : Nat → ClassId) (b : Nat → Nat) (y : Nat → Nat → Int32) (w : Int64) (z : Int32) (N : Nat) (K : Nat) (C : Nat) (nt : Nat) (hRI : RI (y 1) N K C nt) (sz : Nat) : Met l yX10_closedIn wsX10_closedIn ({ frames := 3, cells := 0, slots := 0, locals := 63 } : Room) (va_Pc [.ref (b 0), .int (z)] (PS D T (REF T b y w) sz)) (va_Qi (fun r9 (_ : Unit) => r9 = (if inN z N then (if y 1 (34 + 7 * z.toNatClampNeg + 4) = 0 then 0 else y 1 (34 + 7 * z.toNatClampNeg + 5)) else 0)) (fun _ t => QS D T (va_A (REF T b y w) sz) (REF T b (yS y 3 (if inN z N then (if y 1 (34 + 7 * z.toNatClampNeg + 4) = 0 then 2 else 0) else 1)) w) t) (va_A (REF T b y w) sz)) 0 0 (va_A (REF T b y w) sz) := by
  refine metSi (cc := cX10_closedIn) (maxL := 2) (ty := .int) (by decide) rfl (by rfl) (Nat.le_of_ble_eq_true rfl) ?_
  intro p e s m args below meth c Q ls A hx hb hml hown hts hP hK hD hA hS hl hret
  have hown : s.vm.findClass RX10 = some m.cls := hown
  have hl : lv_has ls 2 [(0, .ref (b 0)), (1, .int (z))] := hl
  have i10 : ∀ w ∈ wsX100, w ∈ wsX10_closedIn := by decide +kernel
  have w1 := hts (Cond.fieldLink RX10 51 "MoonComplaintWindowModel" "thrown" "I") (List.mem_of_getElem? (i := 1) rfl)
  have w2 := hts (Cond.fieldLink RX10 7 "MoonComplaintWindowModel" "now" "[I") (List.mem_of_getElem? (i := 2) rfl)
  obtain ⟨hN, hN2, hKn, hK2, hC, hC1, hC2, hn, hnt, hSo, hSK⟩ := id hRI
  refine lv_aload_n hx hb dX10_closedIn_0 rfl (lv_at hl 0 rfl) ?_
  refine lv_iconst (v := 0) hx hb dX10_closedIn_1 (by decide) ?_
  refine va_put (D := D) (ci := 10) (v := .int (0)) (ty := .int) (C := RX10) (T := TX10) (N := 19) hx hb hts i10 tyX10 tyX10_ok nmX10 hown hK hP hD hS 0 rfl rfl 10 (by decide) w1 (fun _ h9 => h9) rfl (by decide +kernel) rfl rfl (Nat.le_of_ble_eq_true rfl) dX10_closedIn_2 (fun H locs hP hD hS => ?_)
  have hP : va_P D vwCl (REF T b (yS y 3 0) w) H := hP
  have hD : va_D A (REF T b (yS y 3 0) w) := hD
  refine lv_aload_n hx hb dX10_closedIn_5 rfl (lv_at hl 0 rfl) ?_
  refine lv_iload_n hx hb dX10_closedIn_6 rfl (lv_at hl 1 rfl) ?_
  refine rdV (As := [.int (z)]) (rest := []) ⟨hx, hb, hml, hown, hts⟩ (c_X10_isComplaint l D T b (yS y 3 0) w z N hN hN2) (cwV 1 hts gX10_closedIn_X10_isComplaint rfl rfl rfl (by decide +kernel) ⟨Nat.le_of_ble_eq_true rfl, Nat.le_of_ble_eq_true rfl⟩) hK hP 0 rfl rfl rfl hl.1 rfl (Nat.le_of_ble_eq_true rfl) ⟨Nat.zero_le _, Nat.zero_le _⟩ dX10_closedIn_7 ?_
  refine lv_if_ne (tgt := 19) hx hb dX10_closedIn_10 (by decide) (fun c10 => ?_) (fun c10 => ?_)
  ·
    have c10 := bI_n0.mp c10
    obtain ⟨j, hj, hjz, hjc⟩ := inN_t (by omega) c10
    rw [hjz] at hl
    have hl : lv_has ls 2 [(0, .ref (b 0)), (1, .int (nI j))] := hl
    refine lv_aload_n hx hb dX10_closedIn_19 rfl (lv_at hl 0 rfl) ?_
    refine va_get (D := D) (ci := 10) (v := .ref (b 1)) (C := RX10) (T := TX10) (N := 19) hx hb hts i10 hown hK hP 0 rfl rfl 0 (by decide) w2 (fun _ h9 => h9) rfl dX10_closedIn_20 ?_
    refine lv_iload_n hx hb dX10_closedIn_23 rfl (lv_at hl 1 rfl) ?_
    refine rdS (As := [.ref (b 1), .int (nI j)]) (rest := []) ⟨hx, hb, hml, hown, hts⟩ (c_X10_waits l D T (b 1) (y 1) j (by first | omega | assumption | decide)) (va_cwS 2 hts gX10_closedIn_X10_waits rfl rfl rfl (by decide +kernel) ⟨Nat.le_of_ble_eq_true rfl, Nat.le_of_ble_eq_true rfl⟩) hK (hP.sub [1] rfl) rfl hl.1 rfl (Nat.le_of_ble_eq_true rfl) ⟨Nat.zero_le _, Nat.zero_le _⟩ dX10_closedIn_24 ?_
    refine lv_if_eq (tgt := 36) hx hb dX10_closedIn_27 (by decide) (fun c27 => ?_) (fun c27 => ?_)
    ·
      have c27 := bI_0.mp c27
      have c27 := of_decide_eq_false c27
      refine lv_aload_n hx hb dX10_closedIn_36 rfl (lv_at hl 0 rfl) ?_
      refine va_get (D := D) (ci := 10) (v := .ref (b 1)) (C := RX10) (T := TX10) (N := 19) hx hb hts i10 hown hK hP 0 rfl rfl 0 (by decide) w2 (fun _ h9 => h9) rfl dX10_closedIn_37 ?_
      refine lv_iload_n hx hb dX10_closedIn_40 rfl (lv_at hl 1 rfl) ?_
      refine lv_iconst (v := 5) hx hb dX10_closedIn_41 (by decide) ?_
      refine rdT (As := [.int (nI j), .int (5)]) (rest := [.ref (b 1)]) ⟨hx, hb, hml, hown, hts⟩ (c_X10_complaintAt l D T j 5 ) (va_cwS 2 hts gX10_closedIn_X10_complaintAt rfl rfl rfl (by decide +kernel) ⟨Nat.le_of_ble_eq_true rfl, Nat.le_of_ble_eq_true rfl⟩) rfl hl.1 rfl (Nat.le_of_ble_eq_true rfl) ⟨Nat.zero_le _, Nat.zero_le _⟩ dX10_closedIn_42 ?_
      refine aldI hx hb hK hP 1 0 rfl rfl (34 + 7 * j + 5) rfl (by omega) (by decide) dX10_closedIn_45 ?_
      refine endI (r := if inN z N then (if y 1 (34 + 7 * z.toNatClampNeg + 4) = 0 then 0 else y 1 (34 + 7 * z.toNatClampNeg + 5)) else 0) (by first | rfl | (simp [yS_same, c10, c27]; done) | (simp [yS_same, yS_row, c10, c27, hjc]; done)) ?_
      have hE : (yS y 3 0) = (yS y 3 (if inN z N then (if y 1 (34 + 7 * z.toNatClampNeg + 4) = 0 then 2 else 0) else 1)) := by first | rfl | (simp [yS_same, c10, c27]; done) | (simp [yS_same, yS_row, c10, c27, hjc]; done)
      exact hret _ _ _ _ dX10_closedIn_46 (by rw [← hE]; exact hP) (by rw [← hE]; exact hD) hS
    ·
      have c27 := bI_n0.mp c27
      have c27 := of_decide_eq_true c27
      refine lv_aload_n hx hb dX10_closedIn_30 rfl (lv_at hl 0 rfl) ?_
      refine lv_iconst (v := 2) hx hb dX10_closedIn_31 (by decide) ?_
      refine wrVi (As := [.int (2)]) (rest := []) ⟨hx, hb, hml, hown, hts⟩ (c_X10_fails l D T b (yS y 3 0) w 2 _) (cwV 1 hts gX10_closedIn_X10_fails rfl rfl rfl (by decide +kernel) ⟨Nat.le_of_ble_eq_true rfl, Nat.le_of_ble_eq_true rfl⟩) (Foc.rfl _ _) hK hP hD hS hA 0 rfl rfl rfl hl.1 rfl (Nat.le_of_ble_eq_true rfl) ⟨Nat.zero_le _, Nat.zero_le _⟩ dX10_closedIn_32 (fun H locs hP hD hS => ?_)
      have hP : va_P D vwCl (REF T b (yS (yS y 3 0) 3 2) w) H := hP
      have hD : va_D A (REF T b (yS (yS y 3 0) 3 2) w) := hD
      refine endI (r := if inN z N then (if y 1 (34 + 7 * z.toNatClampNeg + 4) = 0 then 0 else y 1 (34 + 7 * z.toNatClampNeg + 5)) else 0) (by first | rfl | (simp [yS_same, c10, c27]; done) | (simp [yS_same, yS_row, c10, c27, hjc]; done)) ?_
      have hE : (yS (yS y 3 0) 3 2) = (yS y 3 (if inN z N then (if y 1 (34 + 7 * z.toNatClampNeg + 4) = 0 then 2 else 0) else 1)) := by first | rfl | (simp [yS_same, c10, c27]; done) | (simp [yS_same, yS_row, c10, c27, hjc]; done)
      exact hret _ _ _ _ dX10_closedIn_35 (by rw [← hE]; exact hP) (by rw [← hE]; exact hD) hS
  ·
    have c10 := bI_0.mp c10
    refine lv_aload_n hx hb dX10_closedIn_13 rfl (lv_at hl 0 rfl) ?_
    refine lv_iconst (v := 1) hx hb dX10_closedIn_14 (by decide) ?_
    refine wrVi (As := [.int (1)]) (rest := []) ⟨hx, hb, hml, hown, hts⟩ (c_X10_fails l D T b (yS y 3 0) w 1 _) (cwV 1 hts gX10_closedIn_X10_fails rfl rfl rfl (by decide +kernel) ⟨Nat.le_of_ble_eq_true rfl, Nat.le_of_ble_eq_true rfl⟩) (Foc.rfl _ _) hK hP hD hS hA 0 rfl rfl rfl hl.1 rfl (Nat.le_of_ble_eq_true rfl) ⟨Nat.zero_le _, Nat.zero_le _⟩ dX10_closedIn_15 (fun H locs hP hD hS => ?_)
    have hP : va_P D vwCl (REF T b (yS (yS y 3 0) 3 1) w) H := hP
    have hD : va_D A (REF T b (yS (yS y 3 0) 3 1) w) := hD
    refine endI (r := if inN z N then (if y 1 (34 + 7 * z.toNatClampNeg + 4) = 0 then 0 else y 1 (34 + 7 * z.toNatClampNeg + 5)) else 0) (by first | rfl | (simp [yS_same, c10]; done) | (simp [yS_same, yS_row, c10, hjc]; done)) ?_
    have hE : (yS (yS y 3 0) 3 1) = (yS y 3 (if inN z N then (if y 1 (34 + 7 * z.toNatClampNeg + 4) = 0 then 2 else 0) else 1)) := by first | rfl | (simp [yS_same, c10]; done) | (simp [yS_same, yS_row, c10, hjc]; done)
    exact hret _ _ _ _ dX10_closedIn_18 (by rw [← hE]; exact hP) (by rw [← hE]; exact hD) hS

set_option maxHeartbeats 4000000 in
set_option maxRecDepth 100000 in
theorem c_X10_clerkOf (l : Launch) (D : va_G) (T : Nat → ClassId) (b : Nat → Nat) (y : Nat → Nat → Int32) (w : Int64) (z : Int32) (N : Nat) (K : Nat) (C : Nat) (nt : Nat) (hRI : RI (y 1) N K C nt) (sz : Nat) : Met l yX10_clerkOf wsX10_clerkOf ({ frames := 2, cells := 0, slots := 0, locals := 43 } : Room) (va_Pc [.ref (b 0), .int (z)] (PS D T (REF T b y w) sz)) (va_Qi (fun r9 (_ : Unit) => r9 = (if inN z N then (if y 1 (34 + 7 * z.toNatClampNeg + 6) < 0 then 0 else y 1 (34 + 7 * z.toNatClampNeg + 6)) else 0)) (fun _ t => QS D T (va_A (REF T b y w) sz) (REF T b (yS y 3 (if inN z N then (if y 1 (34 + 7 * z.toNatClampNeg + 6) < 0 then 2 else 0) else 1)) w) t) (va_A (REF T b y w) sz)) 0 0 (va_A (REF T b y w) sz) := by
  refine metSi (cc := cX10_clerkOf) (maxL := 3) (ty := .int) (by decide) rfl (by rfl) (Nat.le_of_ble_eq_true rfl) ?_
  intro p e s m args below meth c Q ls A hx hb hml hown hts hP hK hD hA hS hl hret
  have hown : s.vm.findClass RX10 = some m.cls := hown
  have hl : lv_has ls 3 [(0, .ref (b 0)), (1, .int (z))] := hl
  have i10 : ∀ w ∈ wsX100, w ∈ wsX10_clerkOf := by decide +kernel
  have w1 := hts (Cond.fieldLink RX10 51 "MoonComplaintWindowModel" "thrown" "I") (List.mem_of_getElem? (i := 1) rfl)
  have w2 := hts (Cond.fieldLink RX10 7 "MoonComplaintWindowModel" "now" "[I") (List.mem_of_getElem? (i := 2) rfl)
  obtain ⟨hN, hN2, hKn, hK2, hC, hC1, hC2, hn, hnt, hSo, hSK⟩ := id hRI
  refine lv_aload_n hx hb dX10_clerkOf_0 rfl (lv_at hl 0 rfl) ?_
  refine lv_iconst (v := 0) hx hb dX10_clerkOf_1 (by decide) ?_
  refine va_put (D := D) (ci := 10) (v := .int (0)) (ty := .int) (C := RX10) (T := TX10) (N := 19) hx hb hts i10 tyX10 tyX10_ok nmX10 hown hK hP hD hS 0 rfl rfl 10 (by decide) w1 (fun _ h9 => h9) rfl (by decide +kernel) rfl rfl (Nat.le_of_ble_eq_true rfl) dX10_clerkOf_2 (fun H locs hP hD hS => ?_)
  have hP : va_P D vwCl (REF T b (yS y 3 0) w) H := hP
  have hD : va_D A (REF T b (yS y 3 0) w) := hD
  refine lv_aload_n hx hb dX10_clerkOf_5 rfl (lv_at hl 0 rfl) ?_
  refine lv_iload_n hx hb dX10_clerkOf_6 rfl (lv_at hl 1 rfl) ?_
  refine rdV (As := [.int (z)]) (rest := []) ⟨hx, hb, hml, hown, hts⟩ (c_X10_isComplaint l D T b (yS y 3 0) w z N hN hN2) (cwV 1 hts gX10_clerkOf_X10_isComplaint rfl rfl rfl (by decide +kernel) ⟨Nat.le_of_ble_eq_true rfl, Nat.le_of_ble_eq_true rfl⟩) hK hP 0 rfl rfl rfl hl.1 rfl (Nat.le_of_ble_eq_true rfl) ⟨Nat.zero_le _, Nat.zero_le _⟩ dX10_clerkOf_7 ?_
  refine lv_if_ne (tgt := 19) hx hb dX10_clerkOf_10 (by decide) (fun c10 => ?_) (fun c10 => ?_)
  ·
    have c10 := bI_n0.mp c10
    obtain ⟨j, hj, hjz, hjc⟩ := inN_t (by omega) c10
    rw [hjz] at hl
    have hl : lv_has ls 3 [(0, .ref (b 0)), (1, .int (nI j))] := hl
    refine lv_aload_n hx hb dX10_clerkOf_19 rfl (lv_at hl 0 rfl) ?_
    refine va_get (D := D) (ci := 10) (v := .ref (b 1)) (C := RX10) (T := TX10) (N := 19) hx hb hts i10 hown hK hP 0 rfl rfl 0 (by decide) w2 (fun _ h9 => h9) rfl dX10_clerkOf_20 ?_
    refine lv_iload_n hx hb dX10_clerkOf_23 rfl (lv_at hl 1 rfl) ?_
    refine lv_bipush (v := 6) hx hb dX10_clerkOf_24 (by decide) ?_
    refine rdT (As := [.int (nI j), .int (6)]) (rest := [.ref (b 1)]) ⟨hx, hb, hml, hown, hts⟩ (c_X10_complaintAt l D T j 6 ) (va_cwS 2 hts gX10_clerkOf_X10_complaintAt rfl rfl rfl (by decide +kernel) ⟨Nat.le_of_ble_eq_true rfl, Nat.le_of_ble_eq_true rfl⟩) rfl hl.1 rfl (Nat.le_of_ble_eq_true rfl) ⟨Nat.zero_le _, Nat.zero_le _⟩ dX10_clerkOf_26 ?_
    refine aldI hx hb hK hP 1 0 rfl rfl (34 + 7 * j + 6) rfl (by omega) (by decide) dX10_clerkOf_29 ?_
    refine lv_istore_n (lv' := [(2, .int (y 1 (34 + 7 * j + 6))), (0, .ref (b 0)), (1, .int (nI j))]) hx hb dX10_clerkOf_30 rfl hl (by decide) rfl (fun ls hl => ?_)
    refine lv_iload_n hx hb dX10_clerkOf_31 rfl (lv_at hl 0 rfl) ?_
    refine lv_if_ge (tgt := 41) hx hb dX10_clerkOf_32 (by decide) (fun c32 => ?_) (fun c32 => ?_)
    ·
      have c32 := Int32.not_lt.mpr c32
      refine lv_iload_n hx hb dX10_clerkOf_41 rfl (lv_at hl 0 rfl) ?_
      refine endI (r := if inN z N then (if y 1 (34 + 7 * z.toNatClampNeg + 6) < 0 then 0 else y 1 (34 + 7 * z.toNatClampNeg + 6)) else 0) (by first | rfl | (simp [yS_same, c10, c32]; done) | (simp [yS_same, yS_row, c10, c32, hjc]; done)) ?_
      have hE : (yS y 3 0) = (yS y 3 (if inN z N then (if y 1 (34 + 7 * z.toNatClampNeg + 6) < 0 then 2 else 0) else 1)) := by first | rfl | (simp [yS_same, c10, c32]; done) | (simp [yS_same, yS_row, c10, c32, hjc]; done)
      exact hret _ _ _ _ dX10_clerkOf_42 (by rw [← hE]; exact hP) (by rw [← hE]; exact hD) hS
    ·
      have c32 := Int32.not_le.mp c32
      refine lv_aload_n hx hb dX10_clerkOf_35 rfl (lv_at hl 1 rfl) ?_
      refine lv_iconst (v := 2) hx hb dX10_clerkOf_36 (by decide) ?_
      refine wrVi (As := [.int (2)]) (rest := []) ⟨hx, hb, hml, hown, hts⟩ (c_X10_fails l D T b (yS y 3 0) w 2 _) (cwV 1 hts gX10_clerkOf_X10_fails rfl rfl rfl (by decide +kernel) ⟨Nat.le_of_ble_eq_true rfl, Nat.le_of_ble_eq_true rfl⟩) (Foc.rfl _ _) hK hP hD hS hA 0 rfl rfl rfl hl.1 rfl (Nat.le_of_ble_eq_true rfl) ⟨Nat.zero_le _, Nat.zero_le _⟩ dX10_clerkOf_37 (fun H locs hP hD hS => ?_)
      have hP : va_P D vwCl (REF T b (yS (yS y 3 0) 3 2) w) H := hP
      have hD : va_D A (REF T b (yS (yS y 3 0) 3 2) w) := hD
      refine endI (r := if inN z N then (if y 1 (34 + 7 * z.toNatClampNeg + 6) < 0 then 0 else y 1 (34 + 7 * z.toNatClampNeg + 6)) else 0) (by first | rfl | (simp [yS_same, c10, c32]; done) | (simp [yS_same, yS_row, c10, c32, hjc]; done)) ?_
      have hE : (yS (yS y 3 0) 3 2) = (yS y 3 (if inN z N then (if y 1 (34 + 7 * z.toNatClampNeg + 6) < 0 then 2 else 0) else 1)) := by first | rfl | (simp [yS_same, c10, c32]; done) | (simp [yS_same, yS_row, c10, c32, hjc]; done)
      exact hret _ _ _ _ dX10_clerkOf_40 (by rw [← hE]; exact hP) (by rw [← hE]; exact hD) hS
  ·
    have c10 := bI_0.mp c10
    refine lv_aload_n hx hb dX10_clerkOf_13 rfl (lv_at hl 0 rfl) ?_
    refine lv_iconst (v := 1) hx hb dX10_clerkOf_14 (by decide) ?_
    refine wrVi (As := [.int (1)]) (rest := []) ⟨hx, hb, hml, hown, hts⟩ (c_X10_fails l D T b (yS y 3 0) w 1 _) (cwV 1 hts gX10_clerkOf_X10_fails rfl rfl rfl (by decide +kernel) ⟨Nat.le_of_ble_eq_true rfl, Nat.le_of_ble_eq_true rfl⟩) (Foc.rfl _ _) hK hP hD hS hA 0 rfl rfl rfl hl.1 rfl (Nat.le_of_ble_eq_true rfl) ⟨Nat.zero_le _, Nat.zero_le _⟩ dX10_clerkOf_15 (fun H locs hP hD hS => ?_)
    have hP : va_P D vwCl (REF T b (yS (yS y 3 0) 3 1) w) H := hP
    have hD : va_D A (REF T b (yS (yS y 3 0) 3 1) w) := hD
    refine endI (r := if inN z N then (if y 1 (34 + 7 * z.toNatClampNeg + 6) < 0 then 0 else y 1 (34 + 7 * z.toNatClampNeg + 6)) else 0) (by first | rfl | (simp [yS_same, c10]; done) | (simp [yS_same, yS_row, c10, hjc]; done)) ?_
    have hE : (yS (yS y 3 0) 3 1) = (yS y 3 (if inN z N then (if y 1 (34 + 7 * z.toNatClampNeg + 6) < 0 then 2 else 0) else 1)) := by first | rfl | (simp [yS_same, c10]; done) | (simp [yS_same, yS_row, c10, hjc]; done)
    exact hret _ _ _ _ dX10_clerkOf_18 (by rw [← hE]; exact hP) (by rw [← hE]; exact hD) hS

set_option maxHeartbeats 4000000 in
set_option maxRecDepth 100000 in
theorem c_X10_waitingOf (l : Launch) (D : va_G) (T : Nat → ClassId) (b : Nat → Nat) (y : Nat → Nat → Int32) (w : Int64) (z : Int32) (z1 : Int32) (N : Nat) (K : Nat) (C : Nat) (nt : Nat) (hRI : RI (y 1) N K C nt) (sz : Nat) : Met l yX10_waitingOf wsX10_waitingOf ({ frames := 4, cells := 0, slots := 0, locals := 86 } : Room) (va_Pc [.ref (b 0), .int (z), .int (z1)] (PS D T (REF T b y w) sz)) (va_Qi (fun r9 (_ : Unit) => r9 = (if rg z 0 99 && rg z1 0 3 then (findR (y 1) z z1 N).elim 0 nI else 0)) (fun _ t => QS D T (va_A (REF T b y w) sz) (REF T b (yS y 3 (if rg z 0 99 && rg z1 0 3 then (if (findR (y 1) z z1 N).isSome then 0 else 2) else 1)) w) t) (va_A (REF T b y w) sz)) 0 0 (va_A (REF T b y w) sz) := by
  refine metSi (cc := cX10_waitingOf) (maxL := 4) (ty := .int) (by decide) rfl (by rfl) (Nat.le_of_ble_eq_true rfl) ?_
  intro p e s m args below meth c Q ls A hx hb hml hown hts hP hK hD hA hS hl hret
  have hown : s.vm.findClass RX10 = some m.cls := hown
  have hl : lv_has ls 4 [(0, .ref (b 0)), (1, .int (z)), (2, .int (z1))] := hl
  have i10 : ∀ w ∈ wsX100, w ∈ wsX10_waitingOf := by decide +kernel
  have w1 := hts (Cond.fieldLink RX10 51 "MoonComplaintWindowModel" "thrown" "I") (List.mem_of_getElem? (i := 1) rfl)
  have w2 := hts (Cond.fieldLink RX10 7 "MoonComplaintWindowModel" "now" "[I") (List.mem_of_getElem? (i := 2) rfl)
  obtain ⟨hN, hN2, hKn, hK2, hC, hC1, hC2, hn, hnt, hSo, hSK⟩ := id hRI
  refine lv_aload_n hx hb dX10_waitingOf_0 rfl (lv_at hl 0 rfl) ?_
  refine lv_iconst (v := 0) hx hb dX10_waitingOf_1 (by decide) ?_
  refine va_put (D := D) (ci := 10) (v := .int (0)) (ty := .int) (C := RX10) (T := TX10) (N := 19) hx hb hts i10 tyX10 tyX10_ok nmX10 hown hK hP hD hS 0 rfl rfl 10 (by decide) w1 (fun _ h9 => h9) rfl (by decide +kernel) rfl rfl (Nat.le_of_ble_eq_true rfl) dX10_waitingOf_2 (fun H locs hP hD hS => ?_)
  have hP : va_P D vwCl (REF T b (yS y 3 0) w) H := hP
  have hD : va_D A (REF T b (yS y 3 0) w) := hD
  refine lv_iload_n hx hb dX10_waitingOf_5 rfl (lv_at hl 1 rfl) ?_
  refine rdT (As := [.int (z)]) (rest := []) ⟨hx, hb, hml, hown, hts⟩ (c_X10_isPerson l D T z ) (va_cwS 1 hts gX10_waitingOf_X10_isPerson rfl rfl rfl (by decide +kernel) ⟨Nat.le_of_ble_eq_true rfl, Nat.le_of_ble_eq_true rfl⟩) rfl hl.1 rfl (Nat.le_of_ble_eq_true rfl) ⟨Nat.zero_le _, Nat.zero_le _⟩ dX10_waitingOf_6 ?_
  refine lv_if_ne (tgt := 18) hx hb dX10_waitingOf_9 (by decide) (fun c9 => ?_) (fun c9 => ?_)
  ·
    have c9 := bI_n0.mp c9
    refine lv_iload_n hx hb dX10_waitingOf_18 rfl (lv_at hl 2 rfl) ?_
    refine rdT (As := [.int (z1)]) (rest := []) ⟨hx, hb, hml, hown, hts⟩ (c_X10_isSort l D T z1 ) (va_cwS 1 hts gX10_waitingOf_X10_isSort rfl rfl rfl (by decide +kernel) ⟨Nat.le_of_ble_eq_true rfl, Nat.le_of_ble_eq_true rfl⟩) rfl hl.1 rfl (Nat.le_of_ble_eq_true rfl) ⟨Nat.zero_le _, Nat.zero_le _⟩ dX10_waitingOf_19 ?_
    refine lv_if_ne (tgt := 31) hx hb dX10_waitingOf_22 (by decide) (fun c22 => ?_) (fun c22 => ?_)
    ·
      have c22 := bI_n0.mp c22
      refine lv_aload_n hx hb dX10_waitingOf_31 rfl (lv_at hl 0 rfl) ?_
      refine va_get (D := D) (ci := 10) (v := .ref (b 1)) (C := RX10) (T := TX10) (N := 19) hx hb hts i10 hown hK hP 0 rfl rfl 0 (by decide) w2 (fun _ h9 => h9) rfl dX10_waitingOf_32 ?_
      refine lv_iload_n hx hb dX10_waitingOf_35 rfl (lv_at hl 1 rfl) ?_
      refine lv_iload_n hx hb dX10_waitingOf_36 rfl (lv_at hl 2 rfl) ?_
      refine rdS (As := [.ref (b 1), .int (z), .int (z1)]) (rest := []) ⟨hx, hb, hml, hown, hts⟩ (c_X10_waitingBy l D T (b 1) (y 1) z z1 N hN hN2) (va_cwS 3 hts gX10_waitingOf_X10_waitingBy rfl rfl rfl (by decide +kernel) ⟨Nat.le_of_ble_eq_true rfl, Nat.le_of_ble_eq_true rfl⟩) hK (hP.sub [1] rfl) rfl hl.1 rfl (Nat.le_of_ble_eq_true rfl) ⟨Nat.zero_le _, Nat.zero_le _⟩ dX10_waitingOf_37 ?_
      refine lv_istore_n (lv' := [(3, .int (oI (findR (y 1) z z1 N))), (0, .ref (b 0)), (1, .int (z)), (2, .int (z1))]) hx hb dX10_waitingOf_40 rfl hl (by decide) rfl (fun ls hl => ?_)
      refine lv_iload_n hx hb dX10_waitingOf_41 rfl (lv_at hl 0 rfl) ?_
      refine lv_if_ge (tgt := 51) hx hb dX10_waitingOf_42 (by decide) (fun c42 => ?_) (fun c42 => ?_)
      ·
        obtain ⟨jj, hjj⟩ := oI_some (Int32.not_lt.mpr c42)
        have hjl := (findR_lt hjj).1
        rw [hjj] at hl
        have hl : lv_has ls 4 [(3, .int (nI jj)), (0, .ref (b 0)), (1, .int (z)), (2, .int (z1))] := hl
        refine lv_iload_n hx hb dX10_waitingOf_51 rfl (lv_at hl 0 rfl) ?_
        refine endI (r := if rg z 0 99 && rg z1 0 3 then (findR (y 1) z z1 N).elim 0 nI else 0) (by first | rfl | (simp [yS_same, c9, c22, c42]; done) | (simp [yS_same, yS_row, c9, c22, c42, hjj]; done)) ?_
        have hE : (yS y 3 0) = (yS y 3 (if rg z 0 99 && rg z1 0 3 then (if (findR (y 1) z z1 N).isSome then 0 else 2) else 1)) := by first | rfl | (simp [yS_same, c9, c22, c42]; done) | (simp [yS_same, yS_row, c9, c22, c42, hjj]; done)
        exact hret _ _ _ _ dX10_waitingOf_52 (by rw [← hE]; exact hP) (by rw [← hE]; exact hD) hS
      ·
        have c42 := (oI_lt (fun j h => by have := (findR_lt h).1; omega)).mp (Int32.not_le.mp c42)
        refine lv_aload_n hx hb dX10_waitingOf_45 rfl (lv_at hl 1 rfl) ?_
        refine lv_iconst (v := 2) hx hb dX10_waitingOf_46 (by decide) ?_
        refine wrVi (As := [.int (2)]) (rest := []) ⟨hx, hb, hml, hown, hts⟩ (c_X10_fails l D T b (yS y 3 0) w 2 _) (cwV 1 hts gX10_waitingOf_X10_fails rfl rfl rfl (by decide +kernel) ⟨Nat.le_of_ble_eq_true rfl, Nat.le_of_ble_eq_true rfl⟩) (Foc.rfl _ _) hK hP hD hS hA 0 rfl rfl rfl hl.1 rfl (Nat.le_of_ble_eq_true rfl) ⟨Nat.zero_le _, Nat.zero_le _⟩ dX10_waitingOf_47 (fun H locs hP hD hS => ?_)
        have hP : va_P D vwCl (REF T b (yS (yS y 3 0) 3 2) w) H := hP
        have hD : va_D A (REF T b (yS (yS y 3 0) 3 2) w) := hD
        refine endI (r := if rg z 0 99 && rg z1 0 3 then (findR (y 1) z z1 N).elim 0 nI else 0) (by first | rfl | (simp [yS_same, c9, c22, c42]; done) | (simp [yS_same, yS_row, c9, c22, c42, hjj]; done)) ?_
        have hE : (yS (yS y 3 0) 3 2) = (yS y 3 (if rg z 0 99 && rg z1 0 3 then (if (findR (y 1) z z1 N).isSome then 0 else 2) else 1)) := by first | rfl | (simp [yS_same, c9, c22, c42]; done) | (simp [yS_same, yS_row, c9, c22, c42, hjj]; done)
        exact hret _ _ _ _ dX10_waitingOf_50 (by rw [← hE]; exact hP) (by rw [← hE]; exact hD) hS
    ·
      have c22 := bI_0.mp c22
      refine lv_aload_n hx hb dX10_waitingOf_25 rfl (lv_at hl 0 rfl) ?_
      refine lv_iconst (v := 1) hx hb dX10_waitingOf_26 (by decide) ?_
      refine wrVi (As := [.int (1)]) (rest := []) ⟨hx, hb, hml, hown, hts⟩ (c_X10_fails l D T b (yS y 3 0) w 1 _) (cwV 1 hts gX10_waitingOf_X10_fails rfl rfl rfl (by decide +kernel) ⟨Nat.le_of_ble_eq_true rfl, Nat.le_of_ble_eq_true rfl⟩) (Foc.rfl _ _) hK hP hD hS hA 0 rfl rfl rfl hl.1 rfl (Nat.le_of_ble_eq_true rfl) ⟨Nat.zero_le _, Nat.zero_le _⟩ dX10_waitingOf_27 (fun H locs hP hD hS => ?_)
      have hP : va_P D vwCl (REF T b (yS (yS y 3 0) 3 1) w) H := hP
      have hD : va_D A (REF T b (yS (yS y 3 0) 3 1) w) := hD
      refine endI (r := if rg z 0 99 && rg z1 0 3 then (findR (y 1) z z1 N).elim 0 nI else 0) (by first | rfl | (simp [yS_same, c9, c22]; done) | (simp [yS_same, yS_row, c9, c22, hjj]; done)) ?_
      have hE : (yS (yS y 3 0) 3 1) = (yS y 3 (if rg z 0 99 && rg z1 0 3 then (if (findR (y 1) z z1 N).isSome then 0 else 2) else 1)) := by first | rfl | (simp [yS_same, c9, c22]; done) | (simp [yS_same, yS_row, c9, c22, hjj]; done)
      exact hret _ _ _ _ dX10_waitingOf_30 (by rw [← hE]; exact hP) (by rw [← hE]; exact hD) hS
  ·
    have c9 := bI_0.mp c9
    refine lv_aload_n hx hb dX10_waitingOf_12 rfl (lv_at hl 0 rfl) ?_
    refine lv_iconst (v := 1) hx hb dX10_waitingOf_13 (by decide) ?_
    refine wrVi (As := [.int (1)]) (rest := []) ⟨hx, hb, hml, hown, hts⟩ (c_X10_fails l D T b (yS y 3 0) w 1 _) (cwV 1 hts gX10_waitingOf_X10_fails rfl rfl rfl (by decide +kernel) ⟨Nat.le_of_ble_eq_true rfl, Nat.le_of_ble_eq_true rfl⟩) (Foc.rfl _ _) hK hP hD hS hA 0 rfl rfl rfl hl.1 rfl (Nat.le_of_ble_eq_true rfl) ⟨Nat.zero_le _, Nat.zero_le _⟩ dX10_waitingOf_14 (fun H locs hP hD hS => ?_)
    have hP : va_P D vwCl (REF T b (yS (yS y 3 0) 3 1) w) H := hP
    have hD : va_D A (REF T b (yS (yS y 3 0) 3 1) w) := hD
    refine endI (r := if rg z 0 99 && rg z1 0 3 then (findR (y 1) z z1 N).elim 0 nI else 0) (by first | rfl | (simp [yS_same, c9]; done) | (simp [yS_same, yS_row, c9, hjj]; done)) ?_
    have hE : (yS (yS y 3 0) 3 1) = (yS y 3 (if rg z 0 99 && rg z1 0 3 then (if (findR (y 1) z z1 N).isSome then 0 else 2) else 1)) := by first | rfl | (simp [yS_same, c9]; done) | (simp [yS_same, yS_row, c9, hjj]; done)
    exact hret _ _ _ _ dX10_waitingOf_17 (by rw [← hE]; exact hP) (by rw [← hE]; exact hD) hS

set_option maxHeartbeats 4000000 in
set_option maxRecDepth 100000 in
theorem c_X10_oldest (l : Launch) (D : va_G) (T : Nat → ClassId) (b : Nat → Nat) (y : Nat → Nat → Int32) (w : Int64) (N : Nat) (K : Nat) (C : Nat) (nt : Nat) (hRI : RI (y 1) N K C nt) (sz : Nat) : Met l yX10_oldest wsX10_oldest ({ frames := 4, cells := 0, slots := 0, locals := 86 } : Room) (va_Pc [.ref (b 0)] (PS D T (REF T b y w) sz)) (va_Qi (fun r9 (_ : Unit) => r9 = ((oldR (y 1) N).elim 0 nI)) (fun _ t => QS D T (va_A (REF T b y w) sz) (REF T b (yS y 3 (if (oldR (y 1) N).isSome then 0 else 1)) w) t) (va_A (REF T b y w) sz)) 0 0 (va_A (REF T b y w) sz) := by
  refine metSi (cc := cX10_oldest) (maxL := 2) (ty := .int) (by decide) rfl (by rfl) (Nat.le_of_ble_eq_true rfl) ?_
  intro p e s m args below meth c Q ls A hx hb hml hown hts hP hK hD hA hS hl hret
  have hown : s.vm.findClass RX10 = some m.cls := hown
  have hl : lv_has ls 2 [(0, .ref (b 0))] := hl
  have i10 : ∀ w ∈ wsX100, w ∈ wsX10_oldest := by decide +kernel
  have w1 := hts (Cond.fieldLink RX10 51 "MoonComplaintWindowModel" "thrown" "I") (List.mem_of_getElem? (i := 1) rfl)
  have w2 := hts (Cond.fieldLink RX10 7 "MoonComplaintWindowModel" "now" "[I") (List.mem_of_getElem? (i := 2) rfl)
  obtain ⟨hN, hN2, hKn, hK2, hC, hC1, hC2, hn, hnt, hSo, hSK⟩ := id hRI
  refine lv_aload_n hx hb dX10_oldest_0 rfl (lv_at hl 0 rfl) ?_
  refine lv_iconst (v := 0) hx hb dX10_oldest_1 (by decide) ?_
  refine va_put (D := D) (ci := 10) (v := .int (0)) (ty := .int) (C := RX10) (T := TX10) (N := 19) hx hb hts i10 tyX10 tyX10_ok nmX10 hown hK hP hD hS 0 rfl rfl 10 (by decide) w1 (fun _ h9 => h9) rfl (by decide +kernel) rfl rfl (Nat.le_of_ble_eq_true rfl) dX10_oldest_2 (fun H locs hP hD hS => ?_)
  have hP : va_P D vwCl (REF T b (yS y 3 0) w) H := hP
  have hD : va_D A (REF T b (yS y 3 0) w) := hD
  refine lv_aload_n hx hb dX10_oldest_5 rfl (lv_at hl 0 rfl) ?_
  refine va_get (D := D) (ci := 10) (v := .ref (b 1)) (C := RX10) (T := TX10) (N := 19) hx hb hts i10 hown hK hP 0 rfl rfl 0 (by decide) w2 (fun _ h9 => h9) rfl dX10_oldest_6 ?_
  refine rdS (As := [.ref (b 1)]) (rest := []) ⟨hx, hb, hml, hown, hts⟩ (c_X10_oldestOf l D T (b 1) (y 1) N hN hN2) (va_cwS 1 hts gX10_oldest_X10_oldestOf rfl rfl rfl (by decide +kernel) ⟨Nat.le_of_ble_eq_true rfl, Nat.le_of_ble_eq_true rfl⟩) hK (hP.sub [1] rfl) rfl hl.1 rfl (Nat.le_of_ble_eq_true rfl) ⟨Nat.zero_le _, Nat.zero_le _⟩ dX10_oldest_9 ?_
  refine lv_istore_n (lv' := [(1, .int (oI (oldR (y 1) N))), (0, .ref (b 0))]) hx hb dX10_oldest_12 rfl hl (by decide) rfl (fun ls hl => ?_)
  refine lv_iload_n hx hb dX10_oldest_13 rfl (lv_at hl 0 rfl) ?_
  refine lv_if_ge (tgt := 23) hx hb dX10_oldest_14 (by decide) (fun c14 => ?_) (fun c14 => ?_)
  ·
    obtain ⟨jj, hjj⟩ := oI_some (Int32.not_lt.mpr c14)
    have hjl := (oldR_lt hjj).1
    rw [hjj] at hl
    have hl : lv_has ls 2 [(1, .int (nI jj)), (0, .ref (b 0))] := hl
    refine lv_iload_n hx hb dX10_oldest_23 rfl (lv_at hl 0 rfl) ?_
    refine endI (r := (oldR (y 1) N).elim 0 nI) (by first | rfl | (simp [yS_same, c14]; done) | (simp [yS_same, yS_row, c14, hjj]; done)) ?_
    have hE : (yS y 3 0) = (yS y 3 (if (oldR (y 1) N).isSome then 0 else 1)) := by first | rfl | (simp [yS_same, c14]; done) | (simp [yS_same, yS_row, c14, hjj]; done)
    exact hret _ _ _ _ dX10_oldest_24 (by rw [← hE]; exact hP) (by rw [← hE]; exact hD) hS
  ·
    have c14 := (oI_lt (fun j h => by have := (oldR_lt h).1; omega)).mp (Int32.not_le.mp c14)
    refine lv_aload_n hx hb dX10_oldest_17 rfl (lv_at hl 1 rfl) ?_
    refine lv_iconst (v := 1) hx hb dX10_oldest_18 (by decide) ?_
    refine wrVi (As := [.int (1)]) (rest := []) ⟨hx, hb, hml, hown, hts⟩ (c_X10_fails l D T b (yS y 3 0) w 1 _) (cwV 1 hts gX10_oldest_X10_fails rfl rfl rfl (by decide +kernel) ⟨Nat.le_of_ble_eq_true rfl, Nat.le_of_ble_eq_true rfl⟩) (Foc.rfl _ _) hK hP hD hS hA 0 rfl rfl rfl hl.1 rfl (Nat.le_of_ble_eq_true rfl) ⟨Nat.zero_le _, Nat.zero_le _⟩ dX10_oldest_19 (fun H locs hP hD hS => ?_)
    have hP : va_P D vwCl (REF T b (yS (yS y 3 0) 3 1) w) H := hP
    have hD : va_D A (REF T b (yS (yS y 3 0) 3 1) w) := hD
    refine endI (r := (oldR (y 1) N).elim 0 nI) (by first | rfl | (simp [yS_same, c14]; done) | (simp [yS_same, yS_row, c14, hjj]; done)) ?_
    have hE : (yS (yS y 3 0) 3 1) = (yS y 3 (if (oldR (y 1) N).isSome then 0 else 1)) := by first | rfl | (simp [yS_same, c14]; done) | (simp [yS_same, yS_row, c14, hjj]; done)
    exact hret _ _ _ _ dX10_oldest_22 (by rw [← hE]; exact hP) (by rw [← hE]; exact hD) hS

set_option maxHeartbeats 4000000 in
set_option maxRecDepth 100000 in
theorem c_X10_angriest (l : Launch) (D : va_G) (T : Nat → ClassId) (b : Nat → Nat) (y : Nat → Nat → Int32) (w : Int64) (N : Nat) (K : Nat) (C : Nat) (nt : Nat) (hRI : RI (y 1) N K C nt) (sz : Nat) : Met l yX10_angriest wsX10_angriest ({ frames := 3, cells := 0, slots := 0, locals := 64 } : Room) (va_Pc [.ref (b 0)] (PS D T (REF T b y w) sz)) (va_Qi (fun r9 (_ : Unit) => r9 = ((angR0 (y 1) N).elim 0 nI)) (fun _ t => QS D T (va_A (REF T b y w) sz) (REF T b (yS y 3 (if (angR0 (y 1) N).isSome then 0 else 1)) w) t) (va_A (REF T b y w) sz)) 0 0 (va_A (REF T b y w) sz) := by
  refine metSi (cc := cX10_angriest) (maxL := 3) (ty := .int) (by decide) rfl (by rfl) (Nat.le_of_ble_eq_true rfl) ?_
  intro p e s m args below meth c Q ls A hx hb hml hown hts hP hK hD hA hS hl hret
  have hown : s.vm.findClass RX10 = some m.cls := hown
  have hl : lv_has ls 3 [(0, .ref (b 0))] := hl
  have i10 : ∀ w ∈ wsX100, w ∈ wsX10_angriest := by decide +kernel
  have w1 := hts (Cond.fieldLink RX10 51 "MoonComplaintWindowModel" "thrown" "I") (List.mem_of_getElem? (i := 1) rfl)
  have w2 := hts (Cond.fieldLink RX10 7 "MoonComplaintWindowModel" "now" "[I") (List.mem_of_getElem? (i := 2) rfl)
  obtain ⟨hN, hN2, hKn, hK2, hC, hC1, hC2, hn, hnt, hSo, hSK⟩ := id hRI
  refine lv_aload_n hx hb dX10_angriest_0 rfl (lv_at hl 0 rfl) ?_
  refine lv_iconst (v := 0) hx hb dX10_angriest_1 (by decide) ?_
  refine va_put (D := D) (ci := 10) (v := .int (0)) (ty := .int) (C := RX10) (T := TX10) (N := 19) hx hb hts i10 tyX10 tyX10_ok nmX10 hown hK hP hD hS 0 rfl rfl 10 (by decide) w1 (fun _ h9 => h9) rfl (by decide +kernel) rfl rfl (Nat.le_of_ble_eq_true rfl) dX10_angriest_2 (fun H locs hP hD hS => ?_)
  have hP : va_P D vwCl (REF T b (yS y 3 0) w) H := hP
  have hD : va_D A (REF T b (yS y 3 0) w) := hD
  refine lv_iconst (v := -1) hx hb dX10_angriest_5 (by decide) ?_
  refine lv_istore_n (lv' := [(1, .int (-1)), (0, .ref (b 0))]) hx hb dX10_angriest_6 rfl hl (by decide) rfl (fun ls hl => ?_)
  refine lv_iconst (v := 0) hx hb dX10_angriest_7 (by decide) ?_
  refine lv_istore_n (lv' := [(2, .int (0)), (1, .int (-1)), (0, .ref (b 0))]) hx hb dX10_angriest_8 rfl hl (by decide) rfl (fun ls hl => ?_)
  have L9 : ∀ (n9 : Nat) (k : Nat) (bo : Option Nat), (N - k) < n9 → (k ≤ N) → (bestB (fun k => decide (y 1 (34 + 7 * k + 4) = 0)) (fun k j => decide (y 1 (34 + 7 * j + 2) < y 1 (34 + 7 * k + 2))) (N - k) k bo = angR0 (y 1) N) → (∀ j, bo = some j → j < 24) → ∀ (H : Heap) (locs : List Loc) (ls : Array Slot), va_P D vwCl (REF T b (yS y 3 0) w) H → va_D A (REF T b (yS y 3 0) w) → va_S A s.heap H locs → lv_has ls 3 [(2, .int (nI k)), (1, .int (oI bo)), (0, .ref (b 0))] → W p l e ({ frames := 3, cells := 0, slots := 0, locals := 64 } : Room) s m args below meth c H locs 0 0 Q (F0 m 9 ls []) := by
    intro n9
    induction n9 with
    | zero => intro k bo hm9; exact absurd hm9 (Nat.not_lt_zero _)
    | succ n9 ih =>
      intro k bo hm9 hk9 hR hb9 H locs ls hP hD hS hl
      refine lv_iload_n hx hb dX10_angriest_9 rfl (lv_at hl 0 rfl) ?_
      refine lv_aload_n hx hb dX10_angriest_10 rfl (lv_at hl 2 rfl) ?_
      refine va_get (D := D) (ci := 10) (v := .ref (b 1)) (C := RX10) (T := TX10) (N := 19) hx hb hts i10 hown hK hP 0 rfl rfl 0 (by decide) w2 (fun _ h9 => h9) rfl dX10_angriest_11 ?_
      refine lv_bipush (v := 6) hx hb dX10_angriest_14 (by decide) ?_
      refine aldI hx hb hK hP 1 0 rfl rfl (6) rfl (by omega) (by decide) dX10_angriest_16 ?_
      refine endI (r := nI N) (hN) ?_
      refine lv_icmp_ge (tgt := 58) hx hb dX10_angriest_17 (by decide) (fun c17 => ?_) (fun c17 => ?_)
      ·
        have c17 : N ≤ k := (nI_leI (a := N) (b := k) (by omega) (by omega)).mp c17
        rw [bestB_done (by omega)] at hR
        refine lv_iload_n hx hb dX10_angriest_58 rfl (lv_at hl 1 rfl) ?_
        refine lv_if_ge (tgt := 68) hx hb dX10_angriest_59 (by decide) (fun c59 => ?_) (fun c59 => ?_)
        ·
          obtain ⟨jj, hjj⟩ := oI_some (Int32.not_lt.mpr c59)
          have hjl := hb9 jj hjj
          rw [hjj] at hl hR
          have hl : lv_has ls 3 [(2, .int (nI k)), (1, .int (nI jj)), (0, .ref (b 0))] := hl
          refine lv_iload_n hx hb dX10_angriest_68 rfl (lv_at hl 1 rfl) ?_
          refine endI (r := (angR0 (y 1) N).elim 0 nI) (by rw [← hR]; rfl) ?_
          have hE : (yS y 3 0) = (yS y 3 (if (angR0 (y 1) N).isSome then 0 else 1)) := by rw [← hR]; first | rfl | (rw [yS_same]; rfl)
          exact hret _ _ _ _ dX10_angriest_69 (by rw [← hE]; exact hP) (by rw [← hE]; exact hD) hS
        ·
          have c59 := (oI_lt (fun j h => by have := hb9 j h; omega)).mp (Int32.not_le.mp c59)
          rw [c59] at hR
          refine lv_aload_n hx hb dX10_angriest_62 rfl (lv_at hl 2 rfl) ?_
          refine lv_iconst (v := 1) hx hb dX10_angriest_63 (by decide) ?_
          refine wrVi (As := [.int (1)]) (rest := []) ⟨hx, hb, hml, hown, hts⟩ (c_X10_fails l D T b (yS y 3 0) w 1 _) (cwV 1 hts gX10_angriest_X10_fails rfl rfl rfl (by decide +kernel) ⟨Nat.le_of_ble_eq_true rfl, Nat.le_of_ble_eq_true rfl⟩) (Foc.rfl _ _) hK hP hD hS hA 0 rfl rfl rfl hl.1 rfl (Nat.le_of_ble_eq_true rfl) ⟨Nat.zero_le _, Nat.zero_le _⟩ dX10_angriest_64 (fun H locs hP hD hS => ?_)
          have hP : va_P D vwCl (REF T b (yS (yS y 3 0) 3 1) w) H := hP
          have hD : va_D A (REF T b (yS (yS y 3 0) 3 1) w) := hD
          refine endI (r := (angR0 (y 1) N).elim 0 nI) (by rw [← hR]; rfl) ?_
          have hE : (yS (yS y 3 0) 3 1) = (yS y 3 (if (angR0 (y 1) N).isSome then 0 else 1)) := by rw [← hR]; first | rfl | (rw [yS_same]; rfl)
          exact hret _ _ _ _ dX10_angriest_67 (by rw [← hE]; exact hP) (by rw [← hE]; exact hD) hS
      ·
        have c17 : ¬ N ≤ k := fun h9 => c17 ((nI_leI (a := N) (b := k) (by omega) (by omega)).mpr h9)
        refine lv_aload_n hx hb dX10_angriest_20 rfl (lv_at hl 2 rfl) ?_
        refine va_get (D := D) (ci := 10) (v := .ref (b 1)) (C := RX10) (T := TX10) (N := 19) hx hb hts i10 hown hK hP 0 rfl rfl 0 (by decide) w2 (fun _ h9 => h9) rfl dX10_angriest_21 ?_
        refine lv_iload_n hx hb dX10_angriest_24 rfl (lv_at hl 0 rfl) ?_
        refine rdS (As := [.ref (b 1), .int (nI k)]) (rest := []) ⟨hx, hb, hml, hown, hts⟩ (c_X10_waits l D T (b 1) (y 1) k (by first | omega | assumption | decide)) (va_cwS 2 hts gX10_angriest_X10_waits rfl rfl rfl (by decide +kernel) ⟨Nat.le_of_ble_eq_true rfl, Nat.le_of_ble_eq_true rfl⟩) hK (hP.sub [1] rfl) rfl hl.1 rfl (Nat.le_of_ble_eq_true rfl) ⟨Nat.zero_le _, Nat.zero_le _⟩ dX10_angriest_25 ?_
        refine lv_if_ne (tgt := 34) hx hb dX10_angriest_28 (by decide) (fun c28 => ?_) (fun c28 => ?_)
        ·
          have c28 := bI_n0.mp c28
          refine lv_iload_n hx hb dX10_angriest_34 rfl (lv_at hl 1 rfl) ?_
          refine lv_if_lt (tgt := 50) hx hb dX10_angriest_35 (by decide) (fun c35 => ?_) (fun c35 => ?_)
          ·
            obtain rfl := (oI_lt (fun j h => by have := hb9 j h; omega)).mp c35
            have hl : lv_has ls 3 [(2, .int (nI k)), (1, .int (-1)), (0, .ref (b 0))] := hl
            refine lv_iload_n hx hb dX10_angriest_50 rfl (lv_at hl 0 rfl) ?_
            refine lv_istore_n (lv' := [(1, .int (nI k)), (2, .int (nI k)), (0, .ref (b 0))]) hx hb dX10_angriest_51 rfl hl (by decide) rfl (fun ls hl => ?_)
            refine lv_iinc (v := nI (k + 1)) (lv' := [(2, .int (nI (k + 1))), (1, .int (nI k)), (0, .ref (b 0))]) hx hb dX10_angriest_52 hl (k := 1) rfl (nI_1 _) (by decide) rfl (fun ls hl => ?_)
            refine lv_goto (tgt := 9) hx hb dX10_angriest_55 (by decide) ?_
            exact ih (k + 1) (some k) (by omega) (by omega) (by rw [bestB_step (by omega)] at hR; first | (simpa [bstep, c17, c28, c35] using hR) | (rw [← hR]; cases bo <;> simp [bstep, c17, c28, c35])) (by first | assumption | (intro j h; cases h; omega)) _ _ _ hP hD hS (lv_sub hl [0, 1, 2] rfl)
          ·
            obtain ⟨j, rfl⟩ : ∃ j, bo = some j := by
              cases bo with
              | none => exact absurd (by decide) c35
              | some j => exact ⟨j, rfl⟩
            have hj9 := hb9 j rfl
            have hl : lv_has ls 3 [(2, .int (nI k)), (1, .int (nI j)), (0, .ref (b 0))] := hl
            refine lv_aload_n hx hb dX10_angriest_38 rfl (lv_at hl 2 rfl) ?_
            refine va_get (D := D) (ci := 10) (v := .ref (b 1)) (C := RX10) (T := TX10) (N := 19) hx hb hts i10 hown hK hP 0 rfl rfl 0 (by decide) w2 (fun _ h9 => h9) rfl dX10_angriest_39 ?_
            refine lv_iload_n hx hb dX10_angriest_42 rfl (lv_at hl 0 rfl) ?_
            refine lv_iload_n hx hb dX10_angriest_43 rfl (lv_at hl 1 rfl) ?_
            refine rdS (As := [.ref (b 1), .int (nI k), .int (nI j)]) (rest := []) ⟨hx, hb, hml, hown, hts⟩ (c_X10_isAngrier l D T (b 1) (y 1) k j (by first | omega | assumption | decide) (by first | omega | assumption | decide)) (va_cwS 3 hts gX10_angriest_X10_isAngrier rfl rfl rfl (by decide +kernel) ⟨Nat.le_of_ble_eq_true rfl, Nat.le_of_ble_eq_true rfl⟩) hK (hP.sub [1] rfl) rfl hl.1 rfl (Nat.le_of_ble_eq_true rfl) ⟨Nat.zero_le _, Nat.zero_le _⟩ dX10_angriest_44 ?_
            refine lv_if_eq (tgt := 52) hx hb dX10_angriest_47 (by decide) (fun c47 => ?_) (fun c47 => ?_)
            ·
              have c47 := bI_0.mp c47
              refine lv_iinc (v := nI (k + 1)) (lv' := [(2, .int (nI (k + 1))), (1, .int (nI j)), (0, .ref (b 0))]) hx hb dX10_angriest_52 hl (k := 0) rfl (nI_1 _) (by decide) rfl (fun ls hl => ?_)
              refine lv_goto (tgt := 9) hx hb dX10_angriest_55 (by decide) ?_
              exact ih (k + 1) (some j) (by omega) (by omega) (by rw [bestB_step (by omega)] at hR; first | (simpa [bstep, c17, c28, c35, c47] using hR) | (rw [← hR]; cases bo <;> simp [bstep, c17, c28, c35, c47])) (by first | assumption | (intro j h; cases h; omega)) _ _ _ hP hD hS (lv_sub hl [0, 1, 2] rfl)
            ·
              have c47 := bI_n0.mp c47
              refine lv_iload_n hx hb dX10_angriest_50 rfl (lv_at hl 0 rfl) ?_
              refine lv_istore_n (lv' := [(1, .int (nI k)), (2, .int (nI k)), (0, .ref (b 0))]) hx hb dX10_angriest_51 rfl hl (by decide) rfl (fun ls hl => ?_)
              refine lv_iinc (v := nI (k + 1)) (lv' := [(2, .int (nI (k + 1))), (1, .int (nI k)), (0, .ref (b 0))]) hx hb dX10_angriest_52 hl (k := 1) rfl (nI_1 _) (by decide) rfl (fun ls hl => ?_)
              refine lv_goto (tgt := 9) hx hb dX10_angriest_55 (by decide) ?_
              exact ih (k + 1) (some k) (by omega) (by omega) (by rw [bestB_step (by omega)] at hR; first | (simpa [bstep, c17, c28, c35, c47] using hR) | (rw [← hR]; cases bo <;> simp [bstep, c17, c28, c35, c47])) (by first | assumption | (intro j h; cases h; omega)) _ _ _ hP hD hS (lv_sub hl [0, 1, 2] rfl)
        ·
          have c28 := bI_0.mp c28
          refine lv_goto (tgt := 52) hx hb dX10_angriest_31 (by decide) ?_
          refine lv_iinc (v := nI (k + 1)) (lv' := [(2, .int (nI (k + 1))), (1, .int (oI bo)), (0, .ref (b 0))]) hx hb dX10_angriest_52 hl (k := 0) rfl (nI_1 _) (by decide) rfl (fun ls hl => ?_)
          refine lv_goto (tgt := 9) hx hb dX10_angriest_55 (by decide) ?_
          exact ih (k + 1) bo (by omega) (by omega) (by rw [bestB_step (by omega)] at hR; first | (simpa [bstep, c17, c28] using hR) | (rw [← hR]; cases bo <;> simp [bstep, c17, c28])) (by first | assumption | (intro j h; cases h; omega)) _ _ _ hP hD hS (lv_sub hl [0, 1, 2] rfl)
  exact L9 _ 0 none (Nat.lt_succ_self _) (by omega) (by rfl) (by intro j h; cases h) _ _ _ hP hD hS (lv_sub hl [0, 1, 2] rfl)

set_option maxHeartbeats 4000000 in
set_option maxRecDepth 100000 in
theorem c_X10_complaintsOf (l : Launch) (D : va_G) (T : Nat → ClassId) (b : Nat → Nat) (y : Nat → Nat → Int32) (w : Int64) (z : Int32) (N : Nat) (K : Nat) (C : Nat) (nt : Nat) (hRI : RI (y 1) N K C nt) (sz : Nat) : Met l yX10_complaintsOf wsX10_complaintsOf ({ frames := 2, cells := 0, slots := 0, locals := 42 } : Room) (va_Pc [.ref (b 0), .int (z)] (PS D T (REF T b y w) sz)) (va_Qi (fun r9 (_ : Unit) => r9 = (if rg z 0 99 then persR (y 1) z N else 0)) (fun _ t => QS D T (va_A (REF T b y w) sz) (REF T b (yS y 3 (if rg z 0 99 then 0 else 1)) w) t) (va_A (REF T b y w) sz)) 0 0 (va_A (REF T b y w) sz) := by
  refine metSi (cc := cX10_complaintsOf) (maxL := 4) (ty := .int) (by decide) rfl (by rfl) (Nat.le_of_ble_eq_true rfl) ?_
  intro p e s m args below meth c Q ls A hx hb hml hown hts hP hK hD hA hS hl hret
  have hown : s.vm.findClass RX10 = some m.cls := hown
  have hl : lv_has ls 4 [(0, .ref (b 0)), (1, .int (z))] := hl
  have i10 : ∀ w ∈ wsX100, w ∈ wsX10_complaintsOf := by decide +kernel
  have w1 := hts (Cond.fieldLink RX10 51 "MoonComplaintWindowModel" "thrown" "I") (List.mem_of_getElem? (i := 1) rfl)
  have w2 := hts (Cond.fieldLink RX10 7 "MoonComplaintWindowModel" "now" "[I") (List.mem_of_getElem? (i := 2) rfl)
  obtain ⟨hN, hN2, hKn, hK2, hC, hC1, hC2, hn, hnt, hSo, hSK⟩ := id hRI
  refine lv_aload_n hx hb dX10_complaintsOf_0 rfl (lv_at hl 0 rfl) ?_
  refine lv_iconst (v := 0) hx hb dX10_complaintsOf_1 (by decide) ?_
  refine va_put (D := D) (ci := 10) (v := .int (0)) (ty := .int) (C := RX10) (T := TX10) (N := 19) hx hb hts i10 tyX10 tyX10_ok nmX10 hown hK hP hD hS 0 rfl rfl 10 (by decide) w1 (fun _ h9 => h9) rfl (by decide +kernel) rfl rfl (Nat.le_of_ble_eq_true rfl) dX10_complaintsOf_2 (fun H locs hP hD hS => ?_)
  have hP : va_P D vwCl (REF T b (yS y 3 0) w) H := hP
  have hD : va_D A (REF T b (yS y 3 0) w) := hD
  refine lv_iload_n hx hb dX10_complaintsOf_5 rfl (lv_at hl 1 rfl) ?_
  refine rdT (As := [.int (z)]) (rest := []) ⟨hx, hb, hml, hown, hts⟩ (c_X10_isPerson l D T z ) (va_cwS 1 hts gX10_complaintsOf_X10_isPerson rfl rfl rfl (by decide +kernel) ⟨Nat.le_of_ble_eq_true rfl, Nat.le_of_ble_eq_true rfl⟩) rfl hl.1 rfl (Nat.le_of_ble_eq_true rfl) ⟨Nat.zero_le _, Nat.zero_le _⟩ dX10_complaintsOf_6 ?_
  refine lv_if_ne (tgt := 18) hx hb dX10_complaintsOf_9 (by decide) (fun c9 => ?_) (fun c9 => ?_)
  ·
    have c9 := bI_n0.mp c9
    refine lv_iconst (v := 0) hx hb dX10_complaintsOf_18 (by decide) ?_
    refine lv_istore_n (lv' := [(2, .int (0)), (0, .ref (b 0)), (1, .int (z))]) hx hb dX10_complaintsOf_19 rfl hl (by decide) rfl (fun ls hl => ?_)
    refine lv_iconst (v := 0) hx hb dX10_complaintsOf_20 (by decide) ?_
    refine lv_istore_n (lv' := [(3, .int (0)), (2, .int (0)), (0, .ref (b 0)), (1, .int (z))]) hx hb dX10_complaintsOf_21 rfl hl (by decide) rfl (fun ls hl => ?_)
    have L22 : ∀ (n9 : Nat) (k : Nat) (x : Int32), (N - k) < n9 → (k ≤ N) → (cntI (fun k => decide (y 1 (34 + 7 * k) = z)) (N - k) k x = persR (y 1) z N) → ∀ (H : Heap) (locs : List Loc) (ls : Array Slot), va_P D vwCl (REF T b (yS y 3 0) w) H → va_D A (REF T b (yS y 3 0) w) → va_S A s.heap H locs → lv_has ls 4 [(3, .int (nI k)), (2, .int (x)), (0, .ref (b 0)), (1, .int (z))] → W p l e ({ frames := 2, cells := 0, slots := 0, locals := 42 } : Room) s m args below meth c H locs 0 0 Q (F0 m 22 ls []) := by
      intro n9
      induction n9 with
      | zero => intro k x hm9; exact absurd hm9 (Nat.not_lt_zero _)
      | succ n9 ih =>
        intro k x hm9 hk9 hR H locs ls hP hD hS hl
        refine lv_iload_n hx hb dX10_complaintsOf_22 rfl (lv_at hl 0 rfl) ?_
        refine lv_aload_n hx hb dX10_complaintsOf_23 rfl (lv_at hl 2 rfl) ?_
        refine va_get (D := D) (ci := 10) (v := .ref (b 1)) (C := RX10) (T := TX10) (N := 19) hx hb hts i10 hown hK hP 0 rfl rfl 0 (by decide) w2 (fun _ h9 => h9) rfl dX10_complaintsOf_24 ?_
        refine lv_bipush (v := 6) hx hb dX10_complaintsOf_27 (by decide) ?_
        refine aldI hx hb hK hP 1 0 rfl rfl (6) rfl (by omega) (by decide) dX10_complaintsOf_29 ?_
        refine endI (r := nI N) (hN) ?_
        refine lv_icmp_ge (tgt := 54) hx hb dX10_complaintsOf_30 (by decide) (fun c30 => ?_) (fun c30 => ?_)
        ·
          have c30 : N ≤ k := (nI_leI (a := N) (b := k) (by omega) (by omega)).mp c30
          refine lv_iload_n hx hb dX10_complaintsOf_54 rfl (lv_at hl 1 rfl) ?_
          refine endI (r := if rg z 0 99 then persR (y 1) z N else 0) (by first | (simp [c9, c30]; done) | (rw [cntI_done (by omega)] at hR; simp [c9, c30]; exact hR)) ?_
          have hE : (yS y 3 0) = (yS y 3 (if rg z 0 99 then 0 else 1)) := by first | rfl | (simp [yS_same, c9, c30]; done) | ((first | have c9x := Int32.not_lt.mp c9 | have c9x := Int32.not_le.mp c9 | have c9x := Int32.not_lt.mpr c9 | have c9x := Int32.not_le.mpr c9 | have c9x := c9); (first | have c30x := Int32.not_lt.mp c30 | have c30x := Int32.not_le.mp c30 | have c30x := Int32.not_lt.mpr c30 | have c30x := Int32.not_le.mpr c30 | have c30x := c30); simp [yS_same, c9, c30, c9x, c30x]; done)
          exact hret _ _ _ _ dX10_complaintsOf_55 (by rw [← hE]; exact hP) (by rw [← hE]; exact hD) hS
        ·
          have c30 : ¬ N ≤ k := fun h9 => c30 ((nI_leI (a := N) (b := k) (by omega) (by omega)).mpr h9)
          refine lv_aload_n hx hb dX10_complaintsOf_33 rfl (lv_at hl 2 rfl) ?_
          refine va_get (D := D) (ci := 10) (v := .ref (b 1)) (C := RX10) (T := TX10) (N := 19) hx hb hts i10 hown hK hP 0 rfl rfl 0 (by decide) w2 (fun _ h9 => h9) rfl dX10_complaintsOf_34 ?_
          refine lv_iload_n hx hb dX10_complaintsOf_37 rfl (lv_at hl 0 rfl) ?_
          refine rdS (As := [.ref (b 1), .int (nI k)]) (rest := []) ⟨hx, hb, hml, hown, hts⟩ (c_X10_personIn l D T (b 1) (y 1) k (by first | omega | assumption | decide)) (va_cwS 2 hts gX10_complaintsOf_X10_personIn rfl rfl rfl (by decide +kernel) ⟨Nat.le_of_ble_eq_true rfl, Nat.le_of_ble_eq_true rfl⟩) hK (hP.sub [1] rfl) rfl hl.1 rfl (Nat.le_of_ble_eq_true rfl) ⟨Nat.zero_le _, Nat.zero_le _⟩ dX10_complaintsOf_38 ?_
          refine lv_iload_n hx hb dX10_complaintsOf_41 rfl (lv_at hl 3 rfl) ?_
          refine lv_icmp_ne (tgt := 48) hx hb dX10_complaintsOf_42 (by decide) (fun c42 => ?_) (fun c42 => ?_)
          ·
            refine lv_iinc (v := nI (k + 1)) (lv' := [(3, .int (nI (k + 1))), (2, .int (x)), (0, .ref (b 0)), (1, .int (z))]) hx hb dX10_complaintsOf_48 hl (k := 0) rfl (nI_1 _) (by decide) rfl (fun ls hl => ?_)
            refine lv_goto (tgt := 22) hx hb dX10_complaintsOf_51 (by decide) ?_
            exact ih (k + 1) x (by omega) (by omega) (by rw [cntI_step (by omega)] at hR; simpa [c9, c30, c42] using hR) _ _ _ hP hD hS (lv_sub hl [0, 1, 2, 3] rfl)
          ·
            refine lv_iinc (v := x + 1) (lv' := [(2, .int (x + 1)), (3, .int (nI k)), (0, .ref (b 0)), (1, .int (z))]) hx hb dX10_complaintsOf_45 hl (k := 1) rfl rfl (by decide) rfl (fun ls hl => ?_)
            refine lv_iinc (v := nI (k + 1)) (lv' := [(3, .int (nI (k + 1))), (2, .int (x + 1)), (0, .ref (b 0)), (1, .int (z))]) hx hb dX10_complaintsOf_48 hl (k := 1) rfl (nI_1 _) (by decide) rfl (fun ls hl => ?_)
            refine lv_goto (tgt := 22) hx hb dX10_complaintsOf_51 (by decide) ?_
            exact ih (k + 1) (x + 1) (by omega) (by omega) (by rw [cntI_step (by omega)] at hR; simpa [c9, c30, c42] using hR) _ _ _ hP hD hS (lv_sub hl [0, 1, 2, 3] rfl)
    exact L22 _ 0 0 (Nat.lt_succ_self _) (by omega) (by first | rfl | (simp; done)) _ _ _ hP hD hS (lv_sub hl [0, 1, 2, 3] rfl)
  ·
    have c9 := bI_0.mp c9
    refine lv_aload_n hx hb dX10_complaintsOf_12 rfl (lv_at hl 0 rfl) ?_
    refine lv_iconst (v := 1) hx hb dX10_complaintsOf_13 (by decide) ?_
    refine wrVi (As := [.int (1)]) (rest := []) ⟨hx, hb, hml, hown, hts⟩ (c_X10_fails l D T b (yS y 3 0) w 1 _) (cwV 1 hts gX10_complaintsOf_X10_fails rfl rfl rfl (by decide +kernel) ⟨Nat.le_of_ble_eq_true rfl, Nat.le_of_ble_eq_true rfl⟩) (Foc.rfl _ _) hK hP hD hS hA 0 rfl rfl rfl hl.1 rfl (Nat.le_of_ble_eq_true rfl) ⟨Nat.zero_le _, Nat.zero_le _⟩ dX10_complaintsOf_14 (fun H locs hP hD hS => ?_)
    have hP : va_P D vwCl (REF T b (yS (yS y 3 0) 3 1) w) H := hP
    have hD : va_D A (REF T b (yS (yS y 3 0) 3 1) w) := hD
    refine endI (r := if rg z 0 99 then persR (y 1) z N else 0) (by first | (simp [c9]; done) | (rw [cntI_done (by omega)] at hR; simp [c9]; exact hR)) ?_
    have hE : (yS (yS y 3 0) 3 1) = (yS y 3 (if rg z 0 99 then 0 else 1)) := by first | rfl | (simp [yS_same, c9]; done) | ((first | have c9x := Int32.not_lt.mp c9 | have c9x := Int32.not_le.mp c9 | have c9x := Int32.not_lt.mpr c9 | have c9x := Int32.not_le.mpr c9 | have c9x := c9); simp [yS_same, c9, c9x]; done)
    exact hret _ _ _ _ dX10_complaintsOf_17 (by rw [← hE]; exact hP) (by rw [← hE]; exact hD) hS

set_option maxHeartbeats 4000000 in
set_option maxRecDepth 100000 in
theorem c_X10_darkestClerk (l : Launch) (D : va_G) (T : Nat → ClassId) (b : Nat → Nat) (y : Nat → Nat → Int32) (w : Int64) (N : Nat) (K : Nat) (C : Nat) (nt : Nat) (hRI : RI (y 1) N K C nt) (sz : Nat) : Met l yX10_darkestClerk wsX10_darkestClerk ({ frames := 3, cells := 0, slots := 0, locals := 64 } : Room) (va_Pc [.ref (b 0)] (PS D T (REF T b y w) sz)) (va_Qi (fun r9 (_ : Unit) => r9 = (if K = 0 then 0 else nI (darkR (y 1) K))) (fun _ t => QS D T (va_A (REF T b y w) sz) (REF T b (yS y 3 (if K = 0 then 1 else 0)) w) t) (va_A (REF T b y w) sz)) 0 0 (va_A (REF T b y w) sz) := by
  refine metSi (cc := cX10_darkestClerk) (maxL := 3) (ty := .int) (by decide) rfl (by rfl) (Nat.le_of_ble_eq_true rfl) ?_
  intro p e s m args below meth c Q ls A hx hb hml hown hts hP hK hD hA hS hl hret
  have hown : s.vm.findClass RX10 = some m.cls := hown
  have hl : lv_has ls 3 [(0, .ref (b 0))] := hl
  have i10 : ∀ w ∈ wsX100, w ∈ wsX10_darkestClerk := by decide +kernel
  have w1 := hts (Cond.fieldLink RX10 51 "MoonComplaintWindowModel" "thrown" "I") (List.mem_of_getElem? (i := 1) rfl)
  have w2 := hts (Cond.fieldLink RX10 7 "MoonComplaintWindowModel" "now" "[I") (List.mem_of_getElem? (i := 2) rfl)
  obtain ⟨hN, hN2, hKn, hK2, hC, hC1, hC2, hn, hnt, hSo, hSK⟩ := id hRI
  refine lv_aload_n hx hb dX10_darkestClerk_0 rfl (lv_at hl 0 rfl) ?_
  refine lv_iconst (v := 0) hx hb dX10_darkestClerk_1 (by decide) ?_
  refine va_put (D := D) (ci := 10) (v := .int (0)) (ty := .int) (C := RX10) (T := TX10) (N := 19) hx hb hts i10 tyX10 tyX10_ok nmX10 hown hK hP hD hS 0 rfl rfl 10 (by decide) w1 (fun _ h9 => h9) rfl (by decide +kernel) rfl rfl (Nat.le_of_ble_eq_true rfl) dX10_darkestClerk_2 (fun H locs hP hD hS => ?_)
  have hP : va_P D vwCl (REF T b (yS y 3 0) w) H := hP
  have hD : va_D A (REF T b (yS y 3 0) w) := hD
  refine lv_aload_n hx hb dX10_darkestClerk_5 rfl (lv_at hl 0 rfl) ?_
  refine va_get (D := D) (ci := 10) (v := .ref (b 1)) (C := RX10) (T := TX10) (N := 19) hx hb hts i10 hown hK hP 0 rfl rfl 0 (by decide) w2 (fun _ h9 => h9) rfl dX10_darkestClerk_6 ?_
  refine lv_iconst (v := 5) hx hb dX10_darkestClerk_9 (by decide) ?_
  refine aldI hx hb hK hP 1 0 rfl rfl (5) rfl (by omega) (by decide) dX10_darkestClerk_10 ?_
  refine endI (r := nI K) (hKn) ?_
  refine lv_if_ne (tgt := 20) hx hb dX10_darkestClerk_11 (by decide) (fun c11 => ?_) (fun c11 => ?_)
  ·
    have c11 : ¬ K = 0 := fun h9 => c11 ((nI_eq (a := K) (b := 0) (by omega) (by omega)).mpr h9)
    refine lv_iconst (v := 0) hx hb dX10_darkestClerk_20 (by decide) ?_
    refine lv_istore_n (lv' := [(1, .int (0)), (0, .ref (b 0))]) hx hb dX10_darkestClerk_21 rfl hl (by decide) rfl (fun ls hl => ?_)
    refine lv_iconst (v := 1) hx hb dX10_darkestClerk_22 (by decide) ?_
    refine lv_istore_n (lv' := [(2, .int (1)), (1, .int (0)), (0, .ref (b 0))]) hx hb dX10_darkestClerk_23 rfl hl (by decide) rfl (fun ls hl => ?_)
    have L24 : ∀ (n9 : Nat) (k : Nat) (bb : Nat), (K - k) < n9 → (k ≤ K) → (iter (fun k b => if y 1 (19 + 3 * k + 1) < y 1 (19 + 3 * b + 1) then k else b) (K - k) k bb = darkR (y 1) K) → (bb < K) → ∀ (H : Heap) (locs : List Loc) (ls : Array Slot), va_P D vwCl (REF T b (yS y 3 0) w) H → va_D A (REF T b (yS y 3 0) w) → va_S A s.heap H locs → lv_has ls 3 [(2, .int (nI k)), (1, .int (nI bb)), (0, .ref (b 0))] → W p l e ({ frames := 3, cells := 0, slots := 0, locals := 64 } : Room) s m args below meth c H locs 0 0 Q (F0 m 24 ls []) := by
      intro n9
      induction n9 with
      | zero => intro k bb hm9; exact absurd hm9 (Nat.not_lt_zero _)
      | succ n9 ih =>
        intro k bb hm9 hk9 hR hb9 H locs ls hP hD hS hl
        refine lv_iload_n hx hb dX10_darkestClerk_24 rfl (lv_at hl 0 rfl) ?_
        refine lv_aload_n hx hb dX10_darkestClerk_25 rfl (lv_at hl 2 rfl) ?_
        refine va_get (D := D) (ci := 10) (v := .ref (b 1)) (C := RX10) (T := TX10) (N := 19) hx hb hts i10 hown hK hP 0 rfl rfl 0 (by decide) w2 (fun _ h9 => h9) rfl dX10_darkestClerk_26 ?_
        refine lv_iconst (v := 5) hx hb dX10_darkestClerk_29 (by decide) ?_
        refine aldI hx hb hK hP 1 0 rfl rfl (5) rfl (by omega) (by decide) dX10_darkestClerk_30 ?_
        refine endI (r := nI K) (hKn) ?_
        refine lv_icmp_ge (tgt := 54) hx hb dX10_darkestClerk_31 (by decide) (fun c31 => ?_) (fun c31 => ?_)
        ·
          have c31 : K ≤ k := (nI_leI (a := K) (b := k) (by omega) (by omega)).mp c31
          refine lv_iload_n hx hb dX10_darkestClerk_54 rfl (lv_at hl 1 rfl) ?_
          refine endI (r := if K = 0 then 0 else nI (darkR (y 1) K)) (by first | (rw [if_pos c11]) | (rw [iter_done (by omega)] at hR; rw [if_neg c11, hR])) ?_
          have hE : (yS y 3 0) = (yS y 3 (if K = 0 then 1 else 0)) := by first | (rw [if_pos c11, yS_same]) | (rw [if_neg c11])
          exact hret _ _ _ _ dX10_darkestClerk_55 (by rw [← hE]; exact hP) (by rw [← hE]; exact hD) hS
        ·
          have c31 : ¬ K ≤ k := fun h9 => c31 ((nI_leI (a := K) (b := k) (by omega) (by omega)).mpr h9)
          refine lv_aload_n hx hb dX10_darkestClerk_34 rfl (lv_at hl 2 rfl) ?_
          refine va_get (D := D) (ci := 10) (v := .ref (b 1)) (C := RX10) (T := TX10) (N := 19) hx hb hts i10 hown hK hP 0 rfl rfl 0 (by decide) w2 (fun _ h9 => h9) rfl dX10_darkestClerk_35 ?_
          refine lv_iload_n hx hb dX10_darkestClerk_38 rfl (lv_at hl 0 rfl) ?_
          refine lv_iload_n hx hb dX10_darkestClerk_39 rfl (lv_at hl 1 rfl) ?_
          refine rdS (As := [.ref (b 1), .int (nI k), .int (nI bb)]) (rest := []) ⟨hx, hb, hml, hown, hts⟩ (c_X10_isDarker l D T (b 1) (y 1) k bb (by first | omega | assumption | decide) (by first | omega | assumption | decide)) (va_cwS 3 hts gX10_darkestClerk_X10_isDarker rfl rfl rfl (by decide +kernel) ⟨Nat.le_of_ble_eq_true rfl, Nat.le_of_ble_eq_true rfl⟩) hK (hP.sub [1] rfl) rfl hl.1 rfl (Nat.le_of_ble_eq_true rfl) ⟨Nat.zero_le _, Nat.zero_le _⟩ dX10_darkestClerk_40 ?_
          refine lv_if_eq (tgt := 48) hx hb dX10_darkestClerk_43 (by decide) (fun c43 => ?_) (fun c43 => ?_)
          ·
            have c43 := bI_0.mp c43
            refine lv_iinc (v := nI (k + 1)) (lv' := [(2, .int (nI (k + 1))), (1, .int (nI bb)), (0, .ref (b 0))]) hx hb dX10_darkestClerk_48 hl (k := 0) rfl (nI_1 _) (by decide) rfl (fun ls hl => ?_)
            refine lv_goto (tgt := 24) hx hb dX10_darkestClerk_51 (by decide) ?_
            exact ih (k + 1) bb (by omega) (by omega) (by rw [iter_step (by omega)] at hR; first | (rw [if_neg (of_decide_eq_false c43)] at hR; exact hR) | (rw [if_pos (of_decide_eq_true c43)] at hR; exact hR)) (by omega) _ _ _ hP hD hS (lv_sub hl [0, 1, 2] rfl)
          ·
            have c43 := bI_n0.mp c43
            refine lv_iload_n hx hb dX10_darkestClerk_46 rfl (lv_at hl 0 rfl) ?_
            refine lv_istore_n (lv' := [(1, .int (nI k)), (2, .int (nI k)), (0, .ref (b 0))]) hx hb dX10_darkestClerk_47 rfl hl (by decide) rfl (fun ls hl => ?_)
            refine lv_iinc (v := nI (k + 1)) (lv' := [(2, .int (nI (k + 1))), (1, .int (nI k)), (0, .ref (b 0))]) hx hb dX10_darkestClerk_48 hl (k := 1) rfl (nI_1 _) (by decide) rfl (fun ls hl => ?_)
            refine lv_goto (tgt := 24) hx hb dX10_darkestClerk_51 (by decide) ?_
            exact ih (k + 1) k (by omega) (by omega) (by rw [iter_step (by omega)] at hR; first | (rw [if_neg (of_decide_eq_false c43)] at hR; exact hR) | (rw [if_pos (of_decide_eq_true c43)] at hR; exact hR)) (by omega) _ _ _ hP hD hS (lv_sub hl [0, 1, 2] rfl)
    exact L24 _ 1 0 (Nat.lt_succ_self _) (by omega) (by rfl) (by omega) _ _ _ hP hD hS (lv_sub hl [0, 1, 2] rfl)
  ·
    have c11 : K = 0 := (nI_eq (a := K) (b := 0) (by omega) (by omega)).mp c11
    refine lv_aload_n hx hb dX10_darkestClerk_14 rfl (lv_at hl 0 rfl) ?_
    refine lv_iconst (v := 1) hx hb dX10_darkestClerk_15 (by decide) ?_
    refine wrVi (As := [.int (1)]) (rest := []) ⟨hx, hb, hml, hown, hts⟩ (c_X10_fails l D T b (yS y 3 0) w 1 _) (cwV 1 hts gX10_darkestClerk_X10_fails rfl rfl rfl (by decide +kernel) ⟨Nat.le_of_ble_eq_true rfl, Nat.le_of_ble_eq_true rfl⟩) (Foc.rfl _ _) hK hP hD hS hA 0 rfl rfl rfl hl.1 rfl (Nat.le_of_ble_eq_true rfl) ⟨Nat.zero_le _, Nat.zero_le _⟩ dX10_darkestClerk_16 (fun H locs hP hD hS => ?_)
    have hP : va_P D vwCl (REF T b (yS (yS y 3 0) 3 1) w) H := hP
    have hD : va_D A (REF T b (yS (yS y 3 0) 3 1) w) := hD
    refine endI (r := if K = 0 then 0 else nI (darkR (y 1) K)) (by first | (rw [if_pos c11]) | (rw [iter_done (by omega)] at hR; rw [if_neg c11, hR])) ?_
    have hE : (yS (yS y 3 0) 3 1) = (yS y 3 (if K = 0 then 1 else 0)) := by first | (rw [if_pos c11, yS_same]) | (rw [if_neg c11])
    exact hret _ _ _ _ dX10_darkestClerk_19 (by rw [← hE]; exact hP) (by rw [← hE]; exact hD) hS

set_option maxHeartbeats 4000000 in
set_option maxRecDepth 100000 in
theorem c_X10_keepsForUndo (l : Launch) (D : va_G) (T : Nat → ClassId) (b : Nat → Nat) (y : Nat → Nat → Int32) (w : Int64) (u : Nat) (hu : y 0 0 = nI u) (hu8 : u ≤ 8) (sz : Nat) : Met l yX10_keepsForUndo wsX10_keepsForUndo ({ frames := 1, cells := 0, slots := 0, locals := 24 } : Room) (va_Pc [.ref (b 0)] (PS D T (REF T b y w) sz)) (va_Qv (fun (_ : Unit) => True) (fun _ t => QS D T (va_A (REF T b y w) sz) (REF T b (rKeep y) w) t) (va_A (REF T b y w) sz)) 0 0 (va_A (REF T b y w) sz) := by
  refine metSv (cc := cX10_keepsForUndo) (maxL := 2) (by decide) rfl (Nat.le_of_ble_eq_true rfl) ?_
  intro p e s m args below meth c Q ls A hx hb hml hown hts hP hK hD hA hS hl hret
  have hown : s.vm.findClass RX10 = some m.cls := hown
  have hl : lv_has ls 2 [(0, .ref (b 0))] := hl
  have i10 : ∀ w ∈ wsX100, w ∈ wsX10_keepsForUndo := by decide +kernel
  have w1 := hts (Cond.fieldLink RX10 257 "MoonComplaintWindowModel" "undos" "I") (List.mem_of_getElem? (i := 1) rfl)
  have w2 := hts (Cond.fieldLink RX10 19 "MoonComplaintWindowModel" "earlier" "[I") (List.mem_of_getElem? (i := 2) rfl)
  have w3 := hts (Cond.fieldLink RX10 7 "MoonComplaintWindowModel" "now" "[I") (List.mem_of_getElem? (i := 3) rfl)
  refine lv_aload_n hx hb dX10_keepsForUndo_0 rfl (lv_at hl 0 rfl) ?_
  refine va_get (D := D) (ci := 10) (v := .int (y 0 0)) (C := RX10) (T := TX10) (N := 19) hx hb hts i10 hown hK hP 0 rfl rfl 6 (by decide) w1 (fun _ h9 => h9) rfl dX10_keepsForUndo_1 ?_
  refine endI (r := nI u) (hu) ?_
  refine lv_bipush (v := 8) hx hb dX10_keepsForUndo_4 (by decide) ?_
  refine lv_icmp_ne (tgt := 56) hx hb dX10_keepsForUndo_6 (by decide) (fun c6 => ?_) (fun c6 => ?_)
  ·
    have c6 : ¬ u = 8 := fun h9 => c6 ((nI_eq (a := u) (b := 8) (by omega) (by omega)).mpr h9)
    refine lv_aload_n hx hb dX10_keepsForUndo_56 rfl (lv_at hl 0 rfl) ?_
    refine va_get (D := D) (ci := 10) (v := .ref (b 1)) (C := RX10) (T := TX10) (N := 19) hx hb hts i10 hown hK hP 0 rfl rfl 0 (by decide) w3 (fun _ h9 => h9) rfl dX10_keepsForUndo_57 ?_
    refine lv_iconst (v := 0) hx hb dX10_keepsForUndo_60 (by decide) ?_
    refine lv_aload_n hx hb dX10_keepsForUndo_61 rfl (lv_at hl 0 rfl) ?_
    refine va_get (D := D) (ci := 10) (v := .ref (b 4)) (C := RX10) (T := TX10) (N := 19) hx hb hts i10 hown hK hP 0 rfl rfl 3 (by decide) w2 (fun _ h9 => h9) rfl dX10_keepsForUndo_62 ?_
    refine lv_sipush (v := 202) hx hb dX10_keepsForUndo_65 (by decide) ?_
    refine lv_aload_n hx hb dX10_keepsForUndo_68 rfl (lv_at hl 0 rfl) ?_
    refine va_get (D := D) (ci := 10) (v := .int (y 0 0)) (C := RX10) (T := TX10) (N := 19) hx hb hts i10 hown hK hP 0 rfl rfl 6 (by decide) w1 (fun _ h9 => h9) rfl dX10_keepsForUndo_69 ?_
    refine endI (r := nI u) (hu) ?_
    refine lv_imul hx hb dX10_keepsForUndo_72 ?_
    refine endI (r := nI (202 * u)) (pk_mul _ _) ?_
    refine wrSv (As := [.ref (b 1), .int (0), .ref (b 4), .int (nI (202 * u))]) (rest := []) ⟨hx, hb, hml, hown, hts⟩ (c_X10_layRow l D T (b 1) 202 (y 1) (b 4) 1616 (y 4) 0 (202 * u) (by first | omega | assumption | decide) (by first | omega | assumption | decide) (by first | omega | assumption | decide) (by first | omega | assumption | decide) _) (va_cwS 4 hts gX10_keepsForUndo_X10_layRow rfl rfl rfl (by decide +kernel) ⟨Nat.le_of_ble_eq_true rfl, Nat.le_of_ble_eq_true rfl⟩) (show Foc (REF T b y w) _ (REF T b (va_up y 4 (rLay (y 1) 0 (202 * u) (y 4))) w) _ from Foc.two 4 1 rfl rfl) hK hP hD hS hA rfl hl.1 rfl (Nat.le_of_ble_eq_true rfl) ⟨Nat.zero_le _, Nat.zero_le _⟩ dX10_keepsForUndo_73 (fun H locs hP hD hS => ?_)
    have hP : va_P D vwCl (REF T b (va_up y 4 (rLay (y 1) 0 (202 * u) (y 4))) w) H := hP
    have hD : va_D A (REF T b (va_up y 4 (rLay (y 1) 0 (202 * u) (y 4))) w) := hD
    refine lv_aload_n hx hb dX10_keepsForUndo_76 rfl (lv_at hl 0 rfl) ?_
    refine lv_dup hx hb dX10_keepsForUndo_77 rfl ?_
    refine va_get (D := D) (ci := 10) (v := .int (y 0 0)) (C := RX10) (T := TX10) (N := 19) hx hb hts i10 hown hK hP 0 rfl rfl 6 (by decide) w1 (fun _ h9 => h9) rfl dX10_keepsForUndo_78 ?_
    refine endI (r := nI u) (hu) ?_
    refine lv_iconst (v := 1) hx hb dX10_keepsForUndo_81 (by decide) ?_
    refine lv_iadd hx hb dX10_keepsForUndo_82 ?_
    refine endI (r := nI (u + 1)) (nI_add _ _) ?_
    refine va_put (D := D) (ci := 10) (v := .int (nI (u + 1))) (ty := .int) (C := RX10) (T := TX10) (N := 19) hx hb hts i10 tyX10 tyX10_ok nmX10 hown hK hP hD hS 0 rfl rfl 6 (by decide) w1 (fun _ h9 => h9) rfl (by decide +kernel) rfl rfl (Nat.le_of_ble_eq_true rfl) dX10_keepsForUndo_83 (fun H locs hP hD hS => ?_)
    have hP : va_P D vwCl (REF T b (yS (va_up y 4 (rLay (y 1) 0 (202 * u) (y 4))) 0 (nI (u + 1))) w) H := hP
    have hD : va_D A (REF T b (yS (va_up y 4 (rLay (y 1) 0 (202 * u) (y 4))) 0 (nI (u + 1))) w) := hD
    have hE : (yS (va_up y 4 (rLay (y 1) 0 (202 * u) (y 4))) 0 (nI (u + 1))) = (rKeep y) := by unfold rKeep keepRow keepUn; rw [hu]; first | (obtain rfl := c6; rw [if_pos (by decide), if_pos (by decide), ← hR]; rfl) | (have g6 : ¬ nI u = 8 := fun h => c6 ((nI_eq (a := u) (b := 8) (by omega) (by omega)).mp h); rw [if_neg g6, if_neg g6, nI_clamp (by omega), nI_1])
    exact hret _ _ _ _ dX10_keepsForUndo_86 (by rw [← hE]; exact hP) (by rw [← hE]; exact hD) hS
  ·
    have c6 : u = 8 := (nI_eq (a := u) (b := 8) (by omega) (by omega)).mp c6
    refine lv_iconst (v := 1) hx hb dX10_keepsForUndo_9 (by decide) ?_
    refine lv_istore_n (lv' := [(1, .int (1)), (0, .ref (b 0))]) hx hb dX10_keepsForUndo_10 rfl hl (by decide) rfl (fun ls hl => ?_)
    have L11 : ∀ (n9 : Nat) (k : Nat) (f4 : Nat → Int32), (8 - k) < n9 → (k ≤ 8) → (iter (fun k f => rLayS (202 * k) (202 * (k - 1)) f) (8 - k) k f4 = iter (fun k f => rLayS (202 * k) (202 * (k - 1)) f) 7 1 (y 4)) → (1 ≤ k) → ∀ (H : Heap) (locs : List Loc) (ls : Array Slot), va_P D vwCl (REF T b (va_up y 4 f4) w) H → va_D A (REF T b (va_up y 4 f4) w) → va_S A s.heap H locs → lv_has ls 2 [(1, .int (nI k)), (0, .ref (b 0))] → W p l e ({ frames := 1, cells := 0, slots := 0, locals := 24 } : Room) s m args below meth c H locs 0 0 Q (F0 m 11 ls []) := by
      intro n9
      induction n9 with
      | zero => intro k f4 hm9; exact absurd hm9 (Nat.not_lt_zero _)
      | succ n9 ih =>
        intro k f4 hm9 hk9 hR hk1 H locs ls hP hD hS hl
        refine lv_iload_n hx hb dX10_keepsForUndo_11 rfl (lv_at hl 0 rfl) ?_
        refine lv_bipush (v := 8) hx hb dX10_keepsForUndo_12 (by decide) ?_
        refine lv_icmp_ge (tgt := 46) hx hb dX10_keepsForUndo_14 (by decide) (fun c14 => ?_) (fun c14 => ?_)
        ·
          have c14 : 8 ≤ k := (nI_leI (a := 8) (b := k) (by omega) (by omega)).mp c14
          rw [iter_done (by omega)] at hR
          refine lv_aload_n hx hb dX10_keepsForUndo_46 rfl (lv_at hl 1 rfl) ?_
          refine lv_dup hx hb dX10_keepsForUndo_47 rfl ?_
          refine va_get (D := D) (ci := 10) (v := .int (y 0 0)) (C := RX10) (T := TX10) (N := 19) hx hb hts i10 hown hK hP 0 rfl rfl 6 (by decide) w1 (fun _ h9 => h9) rfl dX10_keepsForUndo_48 ?_
          refine endI (r := nI u) (hu) ?_
          refine lv_iconst (v := 1) hx hb dX10_keepsForUndo_51 (by decide) ?_
          refine lv_isub hx hb dX10_keepsForUndo_52 ?_
          refine endI (r := nI (u - 1)) (pk_sub (a := u) (b := 1) (by omega)) ?_
          refine va_put (D := D) (ci := 10) (v := .int (nI (u - 1))) (ty := .int) (C := RX10) (T := TX10) (N := 19) hx hb hts i10 tyX10 tyX10_ok nmX10 hown hK hP hD hS 0 rfl rfl 6 (by decide) w1 (fun _ h9 => h9) rfl (by decide +kernel) rfl rfl (Nat.le_of_ble_eq_true rfl) dX10_keepsForUndo_53 (fun H locs hP hD hS => ?_)
          have hP : va_P D vwCl (REF T b (yS (va_up y 4 f4) 0 (nI (u - 1))) w) H := hP
          have hD : va_D A (REF T b (yS (va_up y 4 f4) 0 (nI (u - 1))) w) := hD
          refine lv_aload_n hx hb dX10_keepsForUndo_56 rfl (lv_at hl 1 rfl) ?_
          refine va_get (D := D) (ci := 10) (v := .ref (b 1)) (C := RX10) (T := TX10) (N := 19) hx hb hts i10 hown hK hP 0 rfl rfl 0 (by decide) w3 (fun _ h9 => h9) rfl dX10_keepsForUndo_57 ?_
          refine lv_iconst (v := 0) hx hb dX10_keepsForUndo_60 (by decide) ?_
          refine lv_aload_n hx hb dX10_keepsForUndo_61 rfl (lv_at hl 1 rfl) ?_
          refine va_get (D := D) (ci := 10) (v := .ref (b 4)) (C := RX10) (T := TX10) (N := 19) hx hb hts i10 hown hK hP 0 rfl rfl 3 (by decide) w2 (fun _ h9 => h9) rfl dX10_keepsForUndo_62 ?_
          refine lv_sipush (v := 202) hx hb dX10_keepsForUndo_65 (by decide) ?_
          refine lv_aload_n hx hb dX10_keepsForUndo_68 rfl (lv_at hl 1 rfl) ?_
          refine va_get (D := D) (ci := 10) (v := .int (nI (u - 1))) (C := RX10) (T := TX10) (N := 19) hx hb hts i10 hown hK hP 0 rfl rfl 6 (by decide) w1 (fun _ h9 => h9) rfl dX10_keepsForUndo_69 ?_
          refine lv_imul hx hb dX10_keepsForUndo_72 ?_
          refine endI (r := nI (202 * (u - 1))) (pk_mul _ _) ?_
          refine wrSv (As := [.ref (b 1), .int (0), .ref (b 4), .int (nI (202 * (u - 1)))]) (rest := []) ⟨hx, hb, hml, hown, hts⟩ (c_X10_layRow l D T (b 1) 202 (y 1) (b 4) 1616 f4 0 (202 * (u - 1)) (by first | omega | assumption | decide) (by first | omega | assumption | decide) (by first | omega | assumption | decide) (by first | omega | assumption | decide) _) (va_cwS 4 hts gX10_keepsForUndo_X10_layRow rfl rfl rfl (by decide +kernel) ⟨Nat.le_of_ble_eq_true rfl, Nat.le_of_ble_eq_true rfl⟩) (show Foc (REF T b (yS (va_up y 4 f4) 0 (nI (u - 1))) w) _ (REF T b (yS (va_up y 4 (rLay (y 1) 0 (202 * (u - 1)) f4)) 0 (nI (u - 1))) w) _ from Foc.two 4 1 rfl rfl) hK hP hD hS hA rfl hl.1 rfl (Nat.le_of_ble_eq_true rfl) ⟨Nat.zero_le _, Nat.zero_le _⟩ dX10_keepsForUndo_73 (fun H locs hP hD hS => ?_)
          have hP : va_P D vwCl (REF T b (yS (va_up y 4 (rLay (y 1) 0 (202 * (u - 1)) f4)) 0 (nI (u - 1))) w) H := hP
          have hD : va_D A (REF T b (yS (va_up y 4 (rLay (y 1) 0 (202 * (u - 1)) f4)) 0 (nI (u - 1))) w) := hD
          refine lv_aload_n hx hb dX10_keepsForUndo_76 rfl (lv_at hl 1 rfl) ?_
          refine lv_dup hx hb dX10_keepsForUndo_77 rfl ?_
          refine va_get (D := D) (ci := 10) (v := .int (nI (u - 1))) (C := RX10) (T := TX10) (N := 19) hx hb hts i10 hown hK hP 0 rfl rfl 6 (by decide) w1 (fun _ h9 => h9) rfl dX10_keepsForUndo_78 ?_
          refine lv_iconst (v := 1) hx hb dX10_keepsForUndo_81 (by decide) ?_
          refine lv_iadd hx hb dX10_keepsForUndo_82 ?_
          refine endI (r := nI ((u - 1) + 1)) (nI_add _ _) ?_
          refine va_put (D := D) (ci := 10) (v := .int (nI ((u - 1) + 1))) (ty := .int) (C := RX10) (T := TX10) (N := 19) hx hb hts i10 tyX10 tyX10_ok nmX10 hown hK hP hD hS 0 rfl rfl 6 (by decide) w1 (fun _ h9 => h9) rfl (by decide +kernel) rfl rfl (Nat.le_of_ble_eq_true rfl) dX10_keepsForUndo_83 (fun H locs hP hD hS => ?_)
          have hP : va_P D vwCl (REF T b (yS (va_up y 4 (rLay (y 1) 0 (202 * (u - 1)) f4)) 0 (nI ((u - 1) + 1))) w) H := hP
          have hD : va_D A (REF T b (yS (va_up y 4 (rLay (y 1) 0 (202 * (u - 1)) f4)) 0 (nI ((u - 1) + 1))) w) := hD
          have hE : (yS (va_up y 4 (rLay (y 1) 0 (202 * (u - 1)) f4)) 0 (nI ((u - 1) + 1))) = (rKeep y) := by unfold rKeep keepRow keepUn; rw [hu]; first | (obtain rfl := c6; rw [if_pos (by decide), if_pos (by decide), ← hR]; rfl) | (have g6 : ¬ nI u = 8 := fun h => c6 ((nI_eq (a := u) (b := 8) (by omega) (by omega)).mp h); rw [if_neg g6, if_neg g6, nI_clamp (by omega), nI_1])
          exact hret _ _ _ _ dX10_keepsForUndo_86 (by rw [← hE]; exact hP) (by rw [← hE]; exact hD) hS
        ·
          have c14 : ¬ 8 ≤ k := fun h9 => c14 ((nI_leI (a := 8) (b := k) (by omega) (by omega)).mpr h9)
          refine lv_aload_n hx hb dX10_keepsForUndo_17 rfl (lv_at hl 1 rfl) ?_
          refine va_get (D := D) (ci := 10) (v := .ref (b 4)) (C := RX10) (T := TX10) (N := 19) hx hb hts i10 hown hK hP 0 rfl rfl 3 (by decide) w2 (fun _ h9 => h9) rfl dX10_keepsForUndo_18 ?_
          refine lv_sipush (v := 202) hx hb dX10_keepsForUndo_21 (by decide) ?_
          refine lv_iload_n hx hb dX10_keepsForUndo_24 rfl (lv_at hl 0 rfl) ?_
          refine lv_imul hx hb dX10_keepsForUndo_25 ?_
          refine endI (r := nI (202 * k)) (pk_mul _ _) ?_
          refine lv_aload_n hx hb dX10_keepsForUndo_26 rfl (lv_at hl 1 rfl) ?_
          refine va_get (D := D) (ci := 10) (v := .ref (b 4)) (C := RX10) (T := TX10) (N := 19) hx hb hts i10 hown hK hP 0 rfl rfl 3 (by decide) w2 (fun _ h9 => h9) rfl dX10_keepsForUndo_27 ?_
          refine lv_sipush (v := 202) hx hb dX10_keepsForUndo_30 (by decide) ?_
          refine lv_iload_n hx hb dX10_keepsForUndo_33 rfl (lv_at hl 0 rfl) ?_
          refine lv_iconst (v := 1) hx hb dX10_keepsForUndo_34 (by decide) ?_
          refine lv_isub hx hb dX10_keepsForUndo_35 ?_
          refine endI (r := nI (k - 1)) (pk_sub (a := k) (b := 1) (by omega)) ?_
          refine lv_imul hx hb dX10_keepsForUndo_36 ?_
          refine endI (r := nI (202 * (k - 1))) (pk_mul _ _) ?_
          refine wrSv (As := [.ref (b 4), .int (nI (202 * k)), .ref (b 4), .int (nI (202 * (k - 1)))]) (rest := []) ⟨hx, hb, hml, hown, hts⟩ (c_X10_layRow_s l D T (b 4) 1616 f4 (202 * k) (202 * (k - 1)) (by first | omega | assumption | decide) (by first | omega | assumption | decide) (by first | omega | assumption | decide) _) (va_cwS 4 hts gX10_keepsForUndo_X10_layRow rfl rfl rfl (by decide +kernel) ⟨Nat.le_of_ble_eq_true rfl, Nat.le_of_ble_eq_true rfl⟩) (show Foc (REF T b (va_up y 4 f4) w) _ (REF T b (va_up y 4 (rLayS (202 * k) (202 * (k - 1)) f4)) w) _ from Foc.one 4 rfl) hK hP hD hS hA rfl hl.1 rfl (Nat.le_of_ble_eq_true rfl) ⟨Nat.zero_le _, Nat.zero_le _⟩ dX10_keepsForUndo_37 (fun H locs hP hD hS => ?_)
          have hP : va_P D vwCl (REF T b (va_up y 4 (rLayS (202 * k) (202 * (k - 1)) f4)) w) H := hP
          have hD : va_D A (REF T b (va_up y 4 (rLayS (202 * k) (202 * (k - 1)) f4)) w) := hD
          refine lv_iinc (v := nI (k + 1)) (lv' := [(1, .int (nI (k + 1))), (0, .ref (b 0))]) hx hb dX10_keepsForUndo_40 hl (k := 0) rfl (nI_1 _) (by decide) rfl (fun ls hl => ?_)
          refine lv_goto (tgt := 11) hx hb dX10_keepsForUndo_43 (by decide) ?_
          exact ih (k + 1) (rLayS (202 * k) (202 * (k - 1)) f4) (by omega) (by omega) (by rw [iter_step (by omega)] at hR; exact hR) (by first | assumption | omega) _ _ _ hP hD hS (lv_sub hl [0, 1] rfl)
    exact L11 _ 1 (y 4) (Nat.lt_succ_self _) (by omega) (by first | rfl | (simp; done)) (by first | assumption | omega | (intros; contradiction)) _ _ _ hP hD hS (lv_sub hl [0, 1] rfl)
